/-! X6_run TW -/
theorem zd_X6_run : yX6_run.cls = RX6 ∧ yX6_run.cls ≠ "java/lang/invoke/MethodHandle" ∧ yX6_run.cls ≠ "java/lang/invoke/VarHandle" ∧ (parseMethodDescriptor yX6_run.desc).map (fun d => d.parameters.length) = some 3 := by decide +kernel
abbrev zr_X6_run : Room := { frames := 3, cells := 0, slots := 0, locals := 72 }
theorem zk_X6_run_16 : Cond.fieldLink yX6_run.cls 16 RX6 "trains" "LThirteenthDay$Table;" ∈ wsX6_run := by decide +kernel
theorem zi_X6_run_X6 : ∀ w ∈ u_ws RX6 TX6 3, w ∈ wsX6_run := by decide +kernel
def zX6_run_22 (v1 : Int32) (v2 : Bool) (st : zz_T) : zz_T :=
  if 0 < (zz_g 16 v1 5 st) then
    st
  else
    if v2 = true then
      zz_v (zz_g 16 v1 3 st) fun w1 =>
      zz_v (zX6_nextBlock v1 st) fun w2 =>
      if w2 < 0 then
        zz_v (zX6_arrive v1 w1 st) fun st3 =>
        st3
      else
        if (zX1_getLine w1 2 st) ≤ w2 then
          zz_v (zX6_arrive v1 w1 st) fun st5 =>
          st5
        else
          zz_v (zX6_enter v1 w1 w2 st) fun st7 =>
          st7
    else
      st
set_option maxHeartbeats 4000000 in
set_option maxRecDepth 100000 in
theorem zt_X6_run_22 {l : Launch} {A : Nat → Prop} {D : va_G} {cI : ClassId} {q : Nat → Nat} {p : Program} {e : Env} {s : State} {m : MethodId} {args : Array Value} {below : List Frame} {meth : Method} {c : Code} (C : zz_C A D cI q p s m args meth c cX6_run 6 wsX6_run yX6_run.cls) (hr : meth.sig.returnType = none) : ∀ (v1 : Int32) (v2 : Bool) (st : zz_T) (H : Heap) (locs : List Loc) (ls : Array Slot) (r : zz_T), zX6_run_22 v1 v2 st = r → va_P D vwCl (zz_c q cI st) H → va_S A s.heap H locs → lv_has ls 6 [(0, .ref (q 5)), (1, .int v1), (2, .int (zz_b v2)), (3, .ref (q 1))] → W p l e zr_X6_run s m args below meth c H locs 0 0 (zz_Qv A D cI q r below args s) (F0 m 22 ls []) := by
  obtain ⟨hx, hb, hml, hown, hts⟩ := id C.1
  intro v1 v2 st H locs ls r hf hP hS hl
  rw [zX6_run_22] at hf
  refine lv_aload_n hx hb dX6_run_22 rfl (lv_at hl 0 rfl) ?_
  refine zz_getf C zi_X6_run_X6 hP 5 rfl rfl 0 (nm := "trains") (ds := "LThirteenthDay$Table;") (fin := true) rfl (by decide) zk_X6_run_16 rfl dX6_run_23 ?_
  refine lv_iload_n hx hb dX6_run_26 rfl (lv_at hl 1 rfl) ?_
  refine lv_iconst (v := 5) hx hb dX6_run_27 (by decide) ?_
  refine zz_callVi C (As := [.int v1, .int 5]) (rest := []) (zc_X5_get 16 (by decide) _ _ _) (cwV 2 hts gX6_run_X5_get rfl rfl rfl zd_X5_get ⟨Nat.le_of_ble_eq_true rfl, Nat.le_of_ble_eq_true rfl⟩) hP hS (9 + 16) (zz_c_tab (by decide)) rfl rfl hl rfl (Nat.le_of_ble_eq_true rfl) dX6_run_28 ⟨Nat.zero_le _, Nat.zero_le _⟩ (fun H locs hP hS => ?_)
  refine lv_if_gt (tgt := 38) hx hb dX6_run_31 (by decide) (fun h => ?_) (fun h => ?_)
  · rw [if_pos h] at hf
    rw [← hf]
    exact zz_retv C hr hP hS dX6_run_38
  · rw [if_neg h] at hf
    refine lv_iload_n hx hb dX6_run_34 rfl (lv_at hl 2 rfl) ?_
    refine lv_if_ne (tgt := 39) hx hb dX6_run_35 (by decide) (fun h => ?_) (fun h => ?_)
    · rw [zz_if1 (zz_b1 h)] at hf
      refine lv_aload_n hx hb dX6_run_39 rfl (lv_at hl 0 rfl) ?_
      refine zz_getf C zi_X6_run_X6 hP 5 rfl rfl 0 (nm := "trains") (ds := "LThirteenthDay$Table;") (fin := true) rfl (by decide) zk_X6_run_16 rfl dX6_run_40 ?_
      refine lv_iload_n hx hb dX6_run_43 rfl (lv_at hl 1 rfl) ?_
      refine lv_iconst (v := 3) hx hb dX6_run_44 (by decide) ?_
      refine zz_callVi C (As := [.int v1, .int 3]) (rest := []) (zc_X5_get 16 (by decide) _ _ _) (cwV 2 hts gX6_run_X5_get rfl rfl rfl zd_X5_get ⟨Nat.le_of_ble_eq_true rfl, Nat.le_of_ble_eq_true rfl⟩) hP hS (9 + 16) (zz_c_tab (by decide)) rfl rfl hl rfl (Nat.le_of_ble_eq_true rfl) dX6_run_45 ⟨Nat.zero_le _, Nat.zero_le _⟩ (fun H locs hP hS => ?_)
      refine lv_topi (fun w1 e1 => ?_)
      replace hf := zz_vi hf e1
      refine lv_istore (lv' := [(4, .int w1), (0, .ref (q 5)), (1, .int v1), (2, .int (zz_b v2)), (3, .ref (q 1))]) hx hb dX6_run_48 hl (by decide) rfl (fun ls hl => ?_)
      refine lv_aload_n hx hb dX6_run_50 rfl (lv_at hl 1 rfl) ?_
      refine lv_iload_n hx hb dX6_run_51 rfl (lv_at hl 2 rfl) ?_
      refine zz_callVi C (As := [.int v1]) (rest := []) (zc_X6_nextBlock _ _) (cwV 1 hts gX6_run_X6_nextBlock rfl rfl rfl zd_X6_nextBlock ⟨Nat.le_of_ble_eq_true rfl, Nat.le_of_ble_eq_true rfl⟩) hP hS 5 rfl rfl rfl hl rfl (Nat.le_of_ble_eq_true rfl) dX6_run_52 ⟨Nat.zero_le _, Nat.zero_le _⟩ (fun H locs hP hS => ?_)
      refine lv_topi (fun w2 e2 => ?_)
      replace hf := zz_vi hf e2
      refine lv_istore (lv' := [(5, .int w2), (4, .int w1), (0, .ref (q 5)), (1, .int v1), (2, .int (zz_b v2)), (3, .ref (q 1))]) hx hb dX6_run_55 hl (by decide) rfl (fun ls hl => ?_)
      refine lv_iload hx hb dX6_run_57 (lv_at hl 0 rfl) ?_
      refine lv_if_lt (tgt := 87) hx hb dX6_run_59 (by decide) (fun h => ?_) (fun h => ?_)
      · rw [if_pos h] at hf
        refine lv_aload_n hx hb dX6_run_87 rfl (lv_at hl 2 rfl) ?_
        refine lv_iload_n hx hb dX6_run_88 rfl (lv_at hl 3 rfl) ?_
        refine lv_iload hx hb dX6_run_89 (lv_at hl 1 rfl) ?_
        refine lv_aload_n hx hb dX6_run_91 rfl (lv_at hl 5 rfl) ?_
        obtain ⟨st3, e4, hf⟩ := zz_vo hf
        refine zz_callVv C (As := [.int v1, .int w1, .ref (q 1)]) (rest := []) (zz_Mv_e e4 (zc_X6_arrive _ _ _)) (cwV 3 hts gX6_run_X6_arrive rfl rfl rfl zd_X6_arrive ⟨Nat.le_of_ble_eq_true rfl, Nat.le_of_ble_eq_true rfl⟩) hP hS 5 rfl rfl rfl hl rfl (Nat.le_of_ble_eq_true rfl) dX6_run_92 ⟨Nat.zero_le _, Nat.zero_le _⟩ (fun H locs hP hS => ?_)
        rw [← hf]
        exact zz_retv C hr hP hS dX6_run_95
      · rw [if_neg h] at hf
        refine lv_iload hx hb dX6_run_62 (lv_at hl 0 rfl) ?_
        refine lv_aload_n hx hb dX6_run_64 rfl (lv_at hl 5 rfl) ?_
        refine lv_iload hx hb dX6_run_65 (lv_at hl 1 rfl) ?_
        refine lv_iconst (v := 2) hx hb dX6_run_67 (by decide) ?_
        refine zz_callVi C (As := [.int w1, .int 2]) (rest := [.int w2]) (zc_X1_getLine _ _ _) (cwV 2 hts gX6_run_X1_getLine rfl rfl rfl zd_X1_getLine ⟨Nat.le_of_ble_eq_true rfl, Nat.le_of_ble_eq_true rfl⟩) hP hS 1 rfl rfl rfl hl rfl (Nat.le_of_ble_eq_true rfl) dX6_run_68 ⟨Nat.zero_le _, Nat.zero_le _⟩ (fun H locs hP hS => ?_)
        refine lv_icmp_ge (tgt := 87) hx hb dX6_run_71 (by decide) (fun h => ?_) (fun h => ?_)
        · rw [if_pos h] at hf
          refine lv_aload_n hx hb dX6_run_87 rfl (lv_at hl 2 rfl) ?_
          refine lv_iload_n hx hb dX6_run_88 rfl (lv_at hl 3 rfl) ?_
          refine lv_iload hx hb dX6_run_89 (lv_at hl 1 rfl) ?_
          refine lv_aload_n hx hb dX6_run_91 rfl (lv_at hl 5 rfl) ?_
          obtain ⟨st5, e6, hf⟩ := zz_vo hf
          refine zz_callVv C (As := [.int v1, .int w1, .ref (q 1)]) (rest := []) (zz_Mv_e e6 (zc_X6_arrive _ _ _)) (cwV 3 hts gX6_run_X6_arrive rfl rfl rfl zd_X6_arrive ⟨Nat.le_of_ble_eq_true rfl, Nat.le_of_ble_eq_true rfl⟩) hP hS 5 rfl rfl rfl hl rfl (Nat.le_of_ble_eq_true rfl) dX6_run_92 ⟨Nat.zero_le _, Nat.zero_le _⟩ (fun H locs hP hS => ?_)
          rw [← hf]
          exact zz_retv C hr hP hS dX6_run_95
        · rw [if_neg h] at hf
          refine lv_aload_n hx hb dX6_run_74 rfl (lv_at hl 2 rfl) ?_
          refine lv_iload_n hx hb dX6_run_75 rfl (lv_at hl 3 rfl) ?_
          refine lv_iload hx hb dX6_run_76 (lv_at hl 1 rfl) ?_
          refine lv_iload hx hb dX6_run_78 (lv_at hl 0 rfl) ?_
          refine lv_aload_n hx hb dX6_run_80 rfl (lv_at hl 5 rfl) ?_
          obtain ⟨st7, e8, hf⟩ := zz_vo hf
          refine zz_callVv C (As := [.int v1, .int w1, .int w2, .ref (q 1)]) (rest := []) (zz_Mv_e e8 (zc_X6_enter _ _ _ _)) (cwV 4 hts gX6_run_X6_enter rfl rfl rfl zd_X6_enter ⟨Nat.le_of_ble_eq_true rfl, Nat.le_of_ble_eq_true rfl⟩) hP hS 5 rfl rfl rfl hl rfl (Nat.le_of_ble_eq_true rfl) dX6_run_81 ⟨Nat.zero_le _, Nat.zero_le _⟩ (fun H locs hP hS => ?_)
          refine lv_goto (tgt := 95) hx hb dX6_run_84 (by decide) ?_
          rw [← hf]
          exact zz_retv C hr hP hS dX6_run_95
    · rw [zz_if0 (zz_b0 h)] at hf
      rw [← hf]
      exact zz_retv C hr hP hS dX6_run_38
def zX6_run (v1 : Int32) (v2 : Bool) (st : zz_T) : zz_T :=
  if (zz_g 16 v1 5 st) ≤ 0 then
    zX6_run_22 v1 v2 st
  else
    zz_v (zz_add 16 v1 5 (-1) st) fun st9 =>
    zX6_run_22 v1 v2 st9
set_option maxHeartbeats 4000000 in
set_option maxRecDepth 100000 in
theorem zc_X6_run {l : Launch} {A : Nat → Prop} {D : va_G} {cI : ClassId} {q : Nat → Nat} (v1 : Int32) (v2 : Bool) (st : zz_T) : zz_Mv l A D cI q yX6_run wsX6_run zr_X6_run [.ref (q 5), .int v1, .int (zz_b v2), .ref (q 1)] st (zX6_run v1 v2 st) := by
  refine zz_of (cc := cX6_run) (nL := 6) (ret := none) (by decide) rfl (Nat.le_of_ble_eq_true rfl) ?_
  intro p e s m args below meth c ls C hr hP hS hl
  obtain ⟨hx, hb, hml, hown, hts⟩ := id C.1
  have hl : lv_has ls 6 [(0, .ref (q 5)), (1, .int v1), (2, .int (zz_b v2)), (3, .ref (q 1))] := hl
  obtain ⟨r, hf⟩ : ∃ r, zX6_run v1 v2 st = r := ⟨_, rfl⟩
  rw [hf]
  rw [zX6_run] at hf
  skip
  refine lv_aload_n hx hb dX6_run_0 rfl (lv_at hl 0 rfl) ?_
  refine zz_getf C zi_X6_run_X6 hP 5 rfl rfl 0 (nm := "trains") (ds := "LThirteenthDay$Table;") (fin := true) rfl (by decide) zk_X6_run_16 rfl dX6_run_1 ?_
  refine lv_iload_n hx hb dX6_run_4 rfl (lv_at hl 1 rfl) ?_
  refine lv_iconst (v := 5) hx hb dX6_run_5 (by decide) ?_
  refine zz_callVi C (As := [.int v1, .int 5]) (rest := []) (zc_X5_get 16 (by decide) _ _ _) (cwV 2 hts gX6_run_X5_get rfl rfl rfl zd_X5_get ⟨Nat.le_of_ble_eq_true rfl, Nat.le_of_ble_eq_true rfl⟩) hP hS (9 + 16) (zz_c_tab (by decide)) rfl rfl hl rfl (Nat.le_of_ble_eq_true rfl) dX6_run_6 ⟨Nat.zero_le _, Nat.zero_le _⟩ (fun H locs hP hS => ?_)
  refine lv_if_le (tgt := 22) hx hb dX6_run_9 (by decide) (fun h => ?_) (fun h => ?_)
  · rw [if_pos h] at hf
    exact zt_X6_run_22 C hr _ _ _ _ _ _ _ hf hP hS (lv_sub hl [0, 1, 2, 3] rfl)
  · rw [if_neg h] at hf
    refine lv_aload_n hx hb dX6_run_12 rfl (lv_at hl 0 rfl) ?_
    refine zz_getf C zi_X6_run_X6 hP 5 rfl rfl 0 (nm := "trains") (ds := "LThirteenthDay$Table;") (fin := true) rfl (by decide) zk_X6_run_16 rfl dX6_run_13 ?_
    refine lv_iload_n hx hb dX6_run_16 rfl (lv_at hl 1 rfl) ?_
    refine lv_iconst (v := 5) hx hb dX6_run_17 (by decide) ?_
    refine lv_iconst (v := (-1)) hx hb dX6_run_18 (by decide) ?_
    obtain ⟨st9, e10, hf⟩ := zz_vo hf
    refine zz_callVv C (As := [.int v1, .int 5, .int (-1)]) (rest := []) (zz_Mv_e e10 (zc_X5_add 16 (by decide) _ _ _ _)) (cwV 3 hts gX6_run_X5_add rfl rfl rfl zd_X5_add ⟨Nat.le_of_ble_eq_true rfl, Nat.le_of_ble_eq_true rfl⟩) hP hS (9 + 16) (zz_c_tab (by decide)) rfl rfl hl rfl (Nat.le_of_ble_eq_true rfl) dX6_run_19 ⟨Nat.zero_le _, Nat.zero_le _⟩ (fun H locs hP hS => ?_)
    exact zt_X6_run_22 C hr _ _ _ _ _ _ _ hf hP hS (lv_sub hl [0, 1, 2, 3] rfl)
/-! X6_stay TW -/
theorem zd_X6_stay : yX6_stay.cls = RX6 ∧ yX6_stay.cls ≠ "java/lang/invoke/MethodHandle" ∧ yX6_stay.cls ≠ "java/lang/invoke/VarHandle" ∧ (parseMethodDescriptor yX6_stay.desc).map (fun d => d.parameters.length) = some 3 := by decide +kernel
abbrev zr_X6_stay : Room := { frames := 3, cells := 0, slots := 0, locals := 72 }
theorem zk_X6_stay_16 : Cond.fieldLink yX6_stay.cls 16 RX6 "trains" "LThirteenthDay$Table;" ∈ wsX6_stay := by decide +kernel
theorem zi_X6_stay_X6 : ∀ w ∈ u_ws RX6 TX6 3, w ∈ wsX6_stay := by decide +kernel
def zX6_stay_168 (v1 : Int32) (v5 : Int32) (v6 : Bool) (k1 : Int32) (k3 : Bool) (st : zz_T) : zz_T :=
  zz_v (zz_set 16 k1 11 (zz_b k3) st) fun st7 =>
  if v6 = true then
    zz_v (zX6_enter v1 v5 0 st7) fun st11 =>
    st11
  else
    zz_v (zX6_enter v1 v5 ((zX1_getLine v5 2 st7) - 1) st7) fun st9 =>
    st9
set_option maxHeartbeats 4000000 in
set_option maxRecDepth 100000 in
theorem zt_X6_stay_168 {l : Launch} {A : Nat → Prop} {D : va_G} {cI : ClassId} {q : Nat → Nat} {p : Program} {e : Env} {s : State} {m : MethodId} {args : Array Value} {below : List Frame} {meth : Method} {c : Code} (C : zz_C A D cI q p s m args meth c cX6_stay 7 wsX6_stay yX6_stay.cls) (hr : meth.sig.returnType = none) : ∀ (v1 : Int32) (v5 : Int32) (v6 : Bool) (k1 : Int32) (k3 : Bool) (st : zz_T) (H : Heap) (locs : List Loc) (ls : Array Slot) (r : zz_T), zX6_stay_168 v1 v5 v6 k1 k3 st = r → va_P D vwCl (zz_c q cI st) H → va_S A s.heap H locs → lv_has ls 7 [(0, .ref (q 5)), (1, .int v1), (3, .ref (q 1)), (5, .int v5), (6, .int (zz_b v6))] → W p l e zr_X6_stay s m args below meth c H locs 0 0 (zz_Qv A D cI q r below args s) (F0 m 168 ls [.int (zz_b k3), .int 11, .int k1, .ref (q (9 + 16))]) := by
  obtain ⟨hx, hb, hml, hown, hts⟩ := id C.1
  intro v1 v5 v6 k1 k3 st H locs ls r hf hP hS hl
  rw [zX6_stay_168] at hf
  obtain ⟨st7, e8, hf⟩ := zz_vo hf
  refine zz_callVv C (As := [.int k1, .int 11, .int (zz_b k3)]) (rest := []) (zz_Mv_e e8 (zc_X5_set 16 (by decide) _ _ _ _)) (cwV 3 hts gX6_stay_X5_set rfl rfl rfl zd_X5_set ⟨Nat.le_of_ble_eq_true rfl, Nat.le_of_ble_eq_true rfl⟩) hP hS (9 + 16) (zz_c_tab (by decide)) rfl rfl hl rfl (Nat.le_of_ble_eq_true rfl) dX6_stay_168 ⟨Nat.zero_le _, Nat.zero_le _⟩ (fun H locs hP hS => ?_)
  refine lv_aload_n hx hb dX6_stay_171 rfl (lv_at hl 0 rfl) ?_
  refine lv_iload_n hx hb dX6_stay_172 rfl (lv_at hl 1 rfl) ?_
  refine lv_iload hx hb dX6_stay_173 (lv_at hl 3 rfl) ?_
  refine lv_iload hx hb dX6_stay_175 (lv_at hl 4 rfl) ?_
  refine lv_if_eq (tgt := 184) hx hb dX6_stay_177 (by decide) (fun h => ?_) (fun h => ?_)
  · rw [zz_if0 (zz_b0 h)] at hf
    refine lv_aload_n hx hb dX6_stay_184 rfl (lv_at hl 2 rfl) ?_
    refine lv_iload hx hb dX6_stay_185 (lv_at hl 3 rfl) ?_
    refine lv_iconst (v := 2) hx hb dX6_stay_187 (by decide) ?_
    refine zz_callVi C (As := [.int v5, .int 2]) (rest := [.int v5, .int v1, .ref (q 5)]) (zc_X1_getLine _ _ _) (cwV 2 hts gX6_stay_X1_getLine rfl rfl rfl zd_X1_getLine ⟨Nat.le_of_ble_eq_true rfl, Nat.le_of_ble_eq_true rfl⟩) hP hS 1 rfl rfl rfl hl rfl (Nat.le_of_ble_eq_true rfl) dX6_stay_188 ⟨Nat.zero_le _, Nat.zero_le _⟩ (fun H locs hP hS => ?_)
    refine lv_iconst (v := 1) hx hb dX6_stay_191 (by decide) ?_
    refine lv_isub hx hb dX6_stay_192 ?_
    refine lv_aload_n hx hb dX6_stay_193 rfl (lv_at hl 2 rfl) ?_
    obtain ⟨st9, e10, hf⟩ := zz_vo hf
    refine zz_callVv C (As := [.int v1, .int v5, .int ((zX1_getLine v5 2 st7) - 1), .ref (q 1)]) (rest := []) (zz_Mv_e e10 (zc_X6_enter _ _ _ _)) (cwV 4 hts gX6_stay_X6_enter rfl rfl rfl zd_X6_enter ⟨Nat.le_of_ble_eq_true rfl, Nat.le_of_ble_eq_true rfl⟩) hP hS 5 rfl rfl rfl hl rfl (Nat.le_of_ble_eq_true rfl) dX6_stay_194 ⟨Nat.zero_le _, Nat.zero_le _⟩ (fun H locs hP hS => ?_)
    rw [← hf]
    exact zz_retv C hr hP hS dX6_stay_197
  · rw [zz_if1 (zz_b1 h)] at hf
    refine lv_iconst (v := 0) hx hb dX6_stay_180 (by decide) ?_
    refine lv_goto (tgt := 193) hx hb dX6_stay_181 (by decide) ?_
    refine lv_aload_n hx hb dX6_stay_193 rfl (lv_at hl 2 rfl) ?_
    obtain ⟨st11, e12, hf⟩ := zz_vo hf
    refine zz_callVv C (As := [.int v1, .int v5, .int 0, .ref (q 1)]) (rest := []) (zz_Mv_e e12 (zc_X6_enter _ _ _ _)) (cwV 4 hts gX6_stay_X6_enter rfl rfl rfl zd_X6_enter ⟨Nat.le_of_ble_eq_true rfl, Nat.le_of_ble_eq_true rfl⟩) hP hS 5 rfl rfl rfl hl rfl (Nat.le_of_ble_eq_true rfl) dX6_stay_194 ⟨Nat.zero_le _, Nat.zero_le _⟩ (fun H locs hP hS => ?_)
    rw [← hf]
    exact zz_retv C hr hP hS dX6_stay_197
def zX6_stay_128 (v1 : Int32) (v5 : Int32) (k0 : Bool) (st : zz_T) : zz_T :=
  zz_v (zz_set 16 v1 2 1 st) fun st3 =>
  zz_v (zz_set 16 v1 3 v5 st3) fun st5 =>
  if k0 = true then
    zX6_stay_168 v1 v5 k0 v1 true st5
  else
    zX6_stay_168 v1 v5 k0 v1 false st5
set_option maxHeartbeats 4000000 in
set_option maxRecDepth 100000 in
theorem zt_X6_stay_128 {l : Launch} {A : Nat → Prop} {D : va_G} {cI : ClassId} {q : Nat → Nat} {p : Program} {e : Env} {s : State} {m : MethodId} {args : Array Value} {below : List Frame} {meth : Method} {c : Code} (C : zz_C A D cI q p s m args meth c cX6_stay 7 wsX6_stay yX6_stay.cls) (hr : meth.sig.returnType = none) : ∀ (v1 : Int32) (v5 : Int32) (k0 : Bool) (st : zz_T) (H : Heap) (locs : List Loc) (ls : Array Slot) (r : zz_T), zX6_stay_128 v1 v5 k0 st = r → va_P D vwCl (zz_c q cI st) H → va_S A s.heap H locs → lv_has ls 7 [(0, .ref (q 5)), (1, .int v1), (3, .ref (q 1)), (5, .int v5)] → W p l e zr_X6_stay s m args below meth c H locs 0 0 (zz_Qv A D cI q r below args s) (F0 m 128 ls [.int (zz_b k0)]) := by
  obtain ⟨hx, hb, hml, hown, hts⟩ := id C.1
  intro v1 v5 k0 st H locs ls r hf hP hS hl
  rw [zX6_stay_128] at hf
  refine lv_istore (lv' := [(6, .int (zz_b k0)), (0, .ref (q 5)), (1, .int v1), (3, .ref (q 1)), (5, .int v5)]) hx hb dX6_stay_128 hl (by decide) rfl (fun ls hl => ?_)
  refine lv_aload_n hx hb dX6_stay_130 rfl (lv_at hl 1 rfl) ?_
  refine zz_getf C zi_X6_stay_X6 hP 5 rfl rfl 0 (nm := "trains") (ds := "LThirteenthDay$Table;") (fin := true) rfl (by decide) zk_X6_stay_16 rfl dX6_stay_131 ?_
  refine lv_iload_n hx hb dX6_stay_134 rfl (lv_at hl 2 rfl) ?_
  refine lv_iconst (v := 2) hx hb dX6_stay_135 (by decide) ?_
  refine lv_iconst (v := 1) hx hb dX6_stay_136 (by decide) ?_
  obtain ⟨st3, e4, hf⟩ := zz_vo hf
  refine zz_callVv C (As := [.int v1, .int 2, .int 1]) (rest := []) (zz_Mv_e e4 (zc_X5_set 16 (by decide) _ _ _ _)) (cwV 3 hts gX6_stay_X5_set rfl rfl rfl zd_X5_set ⟨Nat.le_of_ble_eq_true rfl, Nat.le_of_ble_eq_true rfl⟩) hP hS (9 + 16) (zz_c_tab (by decide)) rfl rfl hl rfl (Nat.le_of_ble_eq_true rfl) dX6_stay_137 ⟨Nat.zero_le _, Nat.zero_le _⟩ (fun H locs hP hS => ?_)
  refine lv_aload_n hx hb dX6_stay_140 rfl (lv_at hl 1 rfl) ?_
  refine zz_getf C zi_X6_stay_X6 hP 5 rfl rfl 0 (nm := "trains") (ds := "LThirteenthDay$Table;") (fin := true) rfl (by decide) zk_X6_stay_16 rfl dX6_stay_141 ?_
  refine lv_iload_n hx hb dX6_stay_144 rfl (lv_at hl 2 rfl) ?_
  refine lv_iconst (v := 3) hx hb dX6_stay_145 (by decide) ?_
  refine lv_iload hx hb dX6_stay_146 (lv_at hl 4 rfl) ?_
  obtain ⟨st5, e6, hf⟩ := zz_vo hf
  refine zz_callVv C (As := [.int v1, .int 3, .int v5]) (rest := []) (zz_Mv_e e6 (zc_X5_set 16 (by decide) _ _ _ _)) (cwV 3 hts gX6_stay_X5_set rfl rfl rfl zd_X5_set ⟨Nat.le_of_ble_eq_true rfl, Nat.le_of_ble_eq_true rfl⟩) hP hS (9 + 16) (zz_c_tab (by decide)) rfl rfl hl rfl (Nat.le_of_ble_eq_true rfl) dX6_stay_148 ⟨Nat.zero_le _, Nat.zero_le _⟩ (fun H locs hP hS => ?_)
  refine lv_aload_n hx hb dX6_stay_151 rfl (lv_at hl 1 rfl) ?_
  refine zz_getf C zi_X6_stay_X6 hP 5 rfl rfl 0 (nm := "trains") (ds := "LThirteenthDay$Table;") (fin := true) rfl (by decide) zk_X6_stay_16 rfl dX6_stay_152 ?_
  refine lv_iload_n hx hb dX6_stay_155 rfl (lv_at hl 2 rfl) ?_
  refine lv_bipush (v := 11) hx hb dX6_stay_156 (by decide) ?_
  refine lv_iload hx hb dX6_stay_158 (lv_at hl 0 rfl) ?_
  refine lv_if_eq (tgt := 167) hx hb dX6_stay_160 (by decide) (fun h => ?_) (fun h => ?_)
  · rw [zz_if0 (zz_b0 h)] at hf
    refine lv_iconst (v := 0) hx hb dX6_stay_167 (by decide) ?_
    exact zt_X6_stay_168 C hr _ _ _ _ _ _ _ _ _ _ hf hP hS (lv_sub hl [1, 2, 3, 4, 0] rfl)
  · rw [zz_if1 (zz_b1 h)] at hf
    refine lv_iconst (v := 1) hx hb dX6_stay_163 (by decide) ?_
    refine lv_goto (tgt := 168) hx hb dX6_stay_164 (by decide) ?_
    exact zt_X6_stay_168 C hr _ _ _ _ _ _ _ _ _ _ hf hP hS (lv_sub hl [1, 2, 3, 4, 0] rfl)
def zX6_stay_89 (v1 : Int32) (v2 : Bool) (v4 : Int32) (st : zz_T) : zz_T :=
  if v2 = true then
    zz_v (zX1_firstOf v4 (zz_g 16 v1 9 st) st) fun w2 =>
    if (zX1_getLine w2 0 st) = v4 then
      zX6_stay_128 v1 w2 true st
    else
      zX6_stay_128 v1 w2 false st
  else
    st
set_option maxHeartbeats 4000000 in
set_option maxRecDepth 100000 in
theorem zt_X6_stay_89 {l : Launch} {A : Nat → Prop} {D : va_G} {cI : ClassId} {q : Nat → Nat} {p : Program} {e : Env} {s : State} {m : MethodId} {args : Array Value} {below : List Frame} {meth : Method} {c : Code} (C : zz_C A D cI q p s m args meth c cX6_stay 7 wsX6_stay yX6_stay.cls) (hr : meth.sig.returnType = none) : ∀ (v1 : Int32) (v2 : Bool) (v4 : Int32) (st : zz_T) (H : Heap) (locs : List Loc) (ls : Array Slot) (r : zz_T), zX6_stay_89 v1 v2 v4 st = r → va_P D vwCl (zz_c q cI st) H → va_S A s.heap H locs → lv_has ls 7 [(0, .ref (q 5)), (1, .int v1), (2, .int (zz_b v2)), (3, .ref (q 1)), (4, .int v4)] → W p l e zr_X6_stay s m args below meth c H locs 0 0 (zz_Qv A D cI q r below args s) (F0 m 89 ls []) := by
  obtain ⟨hx, hb, hml, hown, hts⟩ := id C.1
  intro v1 v2 v4 st H locs ls r hf hP hS hl
  rw [zX6_stay_89] at hf
  refine lv_iload_n hx hb dX6_stay_89 rfl (lv_at hl 2 rfl) ?_
  refine lv_if_eq (tgt := 197) hx hb dX6_stay_90 (by decide) (fun h => ?_) (fun h => ?_)
  · rw [zz_if0 (zz_b0 h)] at hf
    rw [← hf]
    exact zz_retv C hr hP hS dX6_stay_197
  · rw [zz_if1 (zz_b1 h)] at hf
    refine lv_aload_n hx hb dX6_stay_93 rfl (lv_at hl 3 rfl) ?_
    refine lv_iload hx hb dX6_stay_94 (lv_at hl 4 rfl) ?_
    refine lv_aload_n hx hb dX6_stay_96 rfl (lv_at hl 0 rfl) ?_
    refine zz_getf C zi_X6_stay_X6 hP 5 rfl rfl 0 (nm := "trains") (ds := "LThirteenthDay$Table;") (fin := true) rfl (by decide) zk_X6_stay_16 rfl dX6_stay_97 ?_
    refine lv_iload_n hx hb dX6_stay_100 rfl (lv_at hl 1 rfl) ?_
    refine lv_bipush (v := 9) hx hb dX6_stay_101 (by decide) ?_
    refine zz_callVi C (As := [.int v1, .int 9]) (rest := [.int v4, .ref (q 1)]) (zc_X5_get 16 (by decide) _ _ _) (cwV 2 hts gX6_stay_X5_get rfl rfl rfl zd_X5_get ⟨Nat.le_of_ble_eq_true rfl, Nat.le_of_ble_eq_true rfl⟩) hP hS (9 + 16) (zz_c_tab (by decide)) rfl rfl hl rfl (Nat.le_of_ble_eq_true rfl) dX6_stay_103 ⟨Nat.zero_le _, Nat.zero_le _⟩ (fun H locs hP hS => ?_)
    refine zz_callVi C (As := [.int v4, .int (zz_g 16 v1 9 st)]) (rest := []) (zc_X1_firstOf _ _ _) (cwV 2 hts gX6_stay_X1_firstOf rfl rfl rfl zd_X1_firstOf ⟨Nat.le_of_ble_eq_true rfl, Nat.le_of_ble_eq_true rfl⟩) hP hS 1 rfl rfl rfl hl rfl (Nat.le_of_ble_eq_true rfl) dX6_stay_106 ⟨Nat.zero_le _, Nat.zero_le _⟩ (fun H locs hP hS => ?_)
    refine lv_topi (fun w2 e2 => ?_)
    replace hf := zz_vi hf e2
    refine lv_istore (lv' := [(5, .int w2), (0, .ref (q 5)), (1, .int v1), (2, .int (zz_b v2)), (3, .ref (q 1)), (4, .int v4)]) hx hb dX6_stay_109 hl (by decide) rfl (fun ls hl => ?_)
    refine lv_aload_n hx hb dX6_stay_111 rfl (lv_at hl 4 rfl) ?_
    refine lv_iload hx hb dX6_stay_112 (lv_at hl 0 rfl) ?_
    refine lv_iconst (v := 0) hx hb dX6_stay_114 (by decide) ?_
    refine zz_callVi C (As := [.int w2, .int 0]) (rest := []) (zc_X1_getLine _ _ _) (cwV 2 hts gX6_stay_X1_getLine rfl rfl rfl zd_X1_getLine ⟨Nat.le_of_ble_eq_true rfl, Nat.le_of_ble_eq_true rfl⟩) hP hS 1 rfl rfl rfl hl rfl (Nat.le_of_ble_eq_true rfl) dX6_stay_115 ⟨Nat.zero_le _, Nat.zero_le _⟩ (fun H locs hP hS => ?_)
    refine lv_iload hx hb dX6_stay_118 (lv_at hl 5 rfl) ?_
    refine lv_icmp_ne (tgt := 127) hx hb dX6_stay_120 (by decide) (fun h => ?_) (fun h => ?_)
    · rw [if_neg h] at hf
      refine lv_iconst (v := 0) hx hb dX6_stay_127 (by decide) ?_
      exact zt_X6_stay_128 C hr _ _ _ _ _ _ _ _ hf hP hS (lv_sub hl [1, 2, 4, 0] rfl)
    · rw [if_pos h] at hf
      refine lv_iconst (v := 1) hx hb dX6_stay_123 (by decide) ?_
      refine lv_goto (tgt := 128) hx hb dX6_stay_124 (by decide) ?_
      exact zt_X6_stay_128 C hr _ _ _ _ _ _ _ _ hf hP hS (lv_sub hl [1, 2, 4, 0] rfl)
def zX6_stay (v1 : Int32) (v2 : Bool) (st : zz_T) : zz_T :=
  zz_v (zz_g 16 v1 3 st) fun w1 =>
  if (zz_g 16 v1 6 st) ≤ 0 then
    if v2 = true then
      if w1 = (zz_g 16 v1 9 st) then
        zz_v (zz_set 16 v1 2 2 st) fun st13 =>
        zz_v (zz_set 16 v1 5 (zz_g 16 v1 13 st13) st13) fun st15 =>
        st15
      else
        zX6_stay_89 v1 v2 w1 st
    else
      zX6_stay_89 v1 v2 w1 st
  else
    zz_v (zz_add 16 v1 6 (-1) st) fun st17 =>
    st17
set_option maxHeartbeats 4000000 in
set_option maxRecDepth 100000 in
theorem zc_X6_stay {l : Launch} {A : Nat → Prop} {D : va_G} {cI : ClassId} {q : Nat → Nat} (v1 : Int32) (v2 : Bool) (st : zz_T) : zz_Mv l A D cI q yX6_stay wsX6_stay zr_X6_stay [.ref (q 5), .int v1, .int (zz_b v2), .ref (q 1)] st (zX6_stay v1 v2 st) := by
  refine zz_of (cc := cX6_stay) (nL := 7) (ret := none) (by decide) rfl (Nat.le_of_ble_eq_true rfl) ?_
  intro p e s m args below meth c ls C hr hP hS hl
  obtain ⟨hx, hb, hml, hown, hts⟩ := id C.1
  have hl : lv_has ls 7 [(0, .ref (q 5)), (1, .int v1), (2, .int (zz_b v2)), (3, .ref (q 1))] := hl
  obtain ⟨r, hf⟩ : ∃ r, zX6_stay v1 v2 st = r := ⟨_, rfl⟩
  rw [hf]
  rw [zX6_stay] at hf
  skip
  refine lv_aload_n hx hb dX6_stay_0 rfl (lv_at hl 0 rfl) ?_
  refine zz_getf C zi_X6_stay_X6 hP 5 rfl rfl 0 (nm := "trains") (ds := "LThirteenthDay$Table;") (fin := true) rfl (by decide) zk_X6_stay_16 rfl dX6_stay_1 ?_
  refine lv_iload_n hx hb dX6_stay_4 rfl (lv_at hl 1 rfl) ?_
  refine lv_iconst (v := 3) hx hb dX6_stay_5 (by decide) ?_
  refine zz_callVi C (As := [.int v1, .int 3]) (rest := []) (zc_X5_get 16 (by decide) _ _ _) (cwV 2 hts gX6_stay_X5_get rfl rfl rfl zd_X5_get ⟨Nat.le_of_ble_eq_true rfl, Nat.le_of_ble_eq_true rfl⟩) hP hS (9 + 16) (zz_c_tab (by decide)) rfl rfl hl rfl (Nat.le_of_ble_eq_true rfl) dX6_stay_6 ⟨Nat.zero_le _, Nat.zero_le _⟩ (fun H locs hP hS => ?_)
  refine lv_topi (fun w1 e1 => ?_)
  replace hf := zz_vi hf e1
  refine lv_istore (lv' := [(4, .int w1), (0, .ref (q 5)), (1, .int v1), (2, .int (zz_b v2)), (3, .ref (q 1))]) hx hb dX6_stay_9 hl (by decide) rfl (fun ls hl => ?_)
  refine lv_aload_n hx hb dX6_stay_11 rfl (lv_at hl 1 rfl) ?_
  refine zz_getf C zi_X6_stay_X6 hP 5 rfl rfl 0 (nm := "trains") (ds := "LThirteenthDay$Table;") (fin := true) rfl (by decide) zk_X6_stay_16 rfl dX6_stay_12 ?_
  refine lv_iload_n hx hb dX6_stay_15 rfl (lv_at hl 2 rfl) ?_
  refine lv_bipush (v := 6) hx hb dX6_stay_16 (by decide) ?_
  refine zz_callVi C (As := [.int v1, .int 6]) (rest := []) (zc_X5_get 16 (by decide) _ _ _) (cwV 2 hts gX6_stay_X5_get rfl rfl rfl zd_X5_get ⟨Nat.le_of_ble_eq_true rfl, Nat.le_of_ble_eq_true rfl⟩) hP hS (9 + 16) (zz_c_tab (by decide)) rfl rfl hl rfl (Nat.le_of_ble_eq_true rfl) dX6_stay_18 ⟨Nat.zero_le _, Nat.zero_le _⟩ (fun H locs hP hS => ?_)
  refine lv_if_le (tgt := 38) hx hb dX6_stay_21 (by decide) (fun h => ?_) (fun h => ?_)
  · rw [if_pos h] at hf
    refine lv_iload_n hx hb dX6_stay_38 rfl (lv_at hl 3 rfl) ?_
    refine lv_if_eq (tgt := 89) hx hb dX6_stay_39 (by decide) (fun h => ?_) (fun h => ?_)
    · rw [zz_if0 (zz_b0 h)] at hf
      exact zt_X6_stay_89 C hr _ _ _ _ _ _ _ _ hf hP hS (lv_sub hl [1, 2, 3, 4, 0] rfl)
    · rw [zz_if1 (zz_b1 h)] at hf
      refine lv_iload hx hb dX6_stay_42 (lv_at hl 0 rfl) ?_
      refine lv_aload_n hx hb dX6_stay_44 rfl (lv_at hl 1 rfl) ?_
      refine zz_getf C zi_X6_stay_X6 hP 5 rfl rfl 0 (nm := "trains") (ds := "LThirteenthDay$Table;") (fin := true) rfl (by decide) zk_X6_stay_16 rfl dX6_stay_45 ?_
      refine lv_iload_n hx hb dX6_stay_48 rfl (lv_at hl 2 rfl) ?_
      refine lv_bipush (v := 9) hx hb dX6_stay_49 (by decide) ?_
      refine zz_callVi C (As := [.int v1, .int 9]) (rest := [.int w1]) (zc_X5_get 16 (by decide) _ _ _) (cwV 2 hts gX6_stay_X5_get rfl rfl rfl zd_X5_get ⟨Nat.le_of_ble_eq_true rfl, Nat.le_of_ble_eq_true rfl⟩) hP hS (9 + 16) (zz_c_tab (by decide)) rfl rfl hl rfl (Nat.le_of_ble_eq_true rfl) dX6_stay_51 ⟨Nat.zero_le _, Nat.zero_le _⟩ (fun H locs hP hS => ?_)
      refine lv_icmp_ne (tgt := 89) hx hb dX6_stay_54 (by decide) (fun h => ?_) (fun h => ?_)
      · rw [if_neg h] at hf
        exact zt_X6_stay_89 C hr _ _ _ _ _ _ _ _ hf hP hS (lv_sub hl [1, 2, 3, 4, 0] rfl)
      · rw [if_pos h] at hf
        refine lv_aload_n hx hb dX6_stay_57 rfl (lv_at hl 1 rfl) ?_
        refine zz_getf C zi_X6_stay_X6 hP 5 rfl rfl 0 (nm := "trains") (ds := "LThirteenthDay$Table;") (fin := true) rfl (by decide) zk_X6_stay_16 rfl dX6_stay_58 ?_
        refine lv_iload_n hx hb dX6_stay_61 rfl (lv_at hl 2 rfl) ?_
        refine lv_iconst (v := 2) hx hb dX6_stay_62 (by decide) ?_
        refine lv_iconst (v := 2) hx hb dX6_stay_63 (by decide) ?_
        obtain ⟨st13, e14, hf⟩ := zz_vo hf
        refine zz_callVv C (As := [.int v1, .int 2, .int 2]) (rest := []) (zz_Mv_e e14 (zc_X5_set 16 (by decide) _ _ _ _)) (cwV 3 hts gX6_stay_X5_set rfl rfl rfl zd_X5_set ⟨Nat.le_of_ble_eq_true rfl, Nat.le_of_ble_eq_true rfl⟩) hP hS (9 + 16) (zz_c_tab (by decide)) rfl rfl hl rfl (Nat.le_of_ble_eq_true rfl) dX6_stay_64 ⟨Nat.zero_le _, Nat.zero_le _⟩ (fun H locs hP hS => ?_)
        refine lv_aload_n hx hb dX6_stay_67 rfl (lv_at hl 1 rfl) ?_
        refine zz_getf C zi_X6_stay_X6 hP 5 rfl rfl 0 (nm := "trains") (ds := "LThirteenthDay$Table;") (fin := true) rfl (by decide) zk_X6_stay_16 rfl dX6_stay_68 ?_
        refine lv_iload_n hx hb dX6_stay_71 rfl (lv_at hl 2 rfl) ?_
        refine lv_iconst (v := 5) hx hb dX6_stay_72 (by decide) ?_
        refine lv_aload_n hx hb dX6_stay_73 rfl (lv_at hl 1 rfl) ?_
        refine zz_getf C zi_X6_stay_X6 hP 5 rfl rfl 0 (nm := "trains") (ds := "LThirteenthDay$Table;") (fin := true) rfl (by decide) zk_X6_stay_16 rfl dX6_stay_74 ?_
        refine lv_iload_n hx hb dX6_stay_77 rfl (lv_at hl 2 rfl) ?_
        refine lv_bipush (v := 13) hx hb dX6_stay_78 (by decide) ?_
        refine zz_callVi C (As := [.int v1, .int 13]) (rest := [.int 5, .int v1, .ref (q (9 + 16))]) (zc_X5_get 16 (by decide) _ _ _) (cwV 2 hts gX6_stay_X5_get rfl rfl rfl zd_X5_get ⟨Nat.le_of_ble_eq_true rfl, Nat.le_of_ble_eq_true rfl⟩) hP hS (9 + 16) (zz_c_tab (by decide)) rfl rfl hl rfl (Nat.le_of_ble_eq_true rfl) dX6_stay_80 ⟨Nat.zero_le _, Nat.zero_le _⟩ (fun H locs hP hS => ?_)
        obtain ⟨st15, e16, hf⟩ := zz_vo hf
        refine zz_callVv C (As := [.int v1, .int 5, .int (zz_g 16 v1 13 st13)]) (rest := []) (zz_Mv_e e16 (zc_X5_set 16 (by decide) _ _ _ _)) (cwV 3 hts gX6_stay_X5_set rfl rfl rfl zd_X5_set ⟨Nat.le_of_ble_eq_true rfl, Nat.le_of_ble_eq_true rfl⟩) hP hS (9 + 16) (zz_c_tab (by decide)) rfl rfl hl rfl (Nat.le_of_ble_eq_true rfl) dX6_stay_83 ⟨Nat.zero_le _, Nat.zero_le _⟩ (fun H locs hP hS => ?_)
        refine lv_goto (tgt := 197) hx hb dX6_stay_86 (by decide) ?_
        rw [← hf]
        exact zz_retv C hr hP hS dX6_stay_197
  · rw [if_neg h] at hf
    refine lv_aload_n hx hb dX6_stay_24 rfl (lv_at hl 1 rfl) ?_
    refine zz_getf C zi_X6_stay_X6 hP 5 rfl rfl 0 (nm := "trains") (ds := "LThirteenthDay$Table;") (fin := true) rfl (by decide) zk_X6_stay_16 rfl dX6_stay_25 ?_
    refine lv_iload_n hx hb dX6_stay_28 rfl (lv_at hl 2 rfl) ?_
    refine lv_bipush (v := 6) hx hb dX6_stay_29 (by decide) ?_
    refine lv_iconst (v := (-1)) hx hb dX6_stay_31 (by decide) ?_
    obtain ⟨st17, e18, hf⟩ := zz_vo hf
    refine zz_callVv C (As := [.int v1, .int 6, .int (-1)]) (rest := []) (zz_Mv_e e18 (zc_X5_add 16 (by decide) _ _ _ _)) (cwV 3 hts gX6_stay_X5_add rfl rfl rfl zd_X5_add ⟨Nat.le_of_ble_eq_true rfl, Nat.le_of_ble_eq_true rfl⟩) hP hS (9 + 16) (zz_c_tab (by decide)) rfl rfl hl rfl (Nat.le_of_ble_eq_true rfl) dX6_stay_32 ⟨Nat.zero_le _, Nat.zero_le _⟩ (fun H locs hP hS => ?_)
    refine lv_goto (tgt := 197) hx hb dX6_stay_35 (by decide) ?_
    rw [← hf]
    exact zz_retv C hr hP hS dX6_stay_197
/-! X6_move TW -/
theorem zd_X6_move : yX6_move.cls = RX6 ∧ yX6_move.cls ≠ "java/lang/invoke/MethodHandle" ∧ yX6_move.cls ≠ "java/lang/invoke/VarHandle" ∧ (parseMethodDescriptor yX6_move.desc).map (fun d => d.parameters.length) = some 3 := by decide +kernel
abbrev zr_X6_move : Room := { frames := 4, cells := 0, slots := 0, locals := 98 }
theorem zk_X6_move_16 : Cond.fieldLink yX6_move.cls 16 RX6 "trains" "LThirteenthDay$Table;" ∈ wsX6_move := by decide +kernel
theorem zi_X6_move_X6 : ∀ w ∈ u_ws RX6 TX6 3, w ∈ wsX6_move := by decide +kernel
def zX6_move_20 (v1 : Int32) (v4 : Int32) (k0 : Bool) (st : zz_T) : (Bool × zz_T) :=
  if v4 = 1 then
    zz_v (zX6_run v1 k0 st) fun st10 =>
    (false, st10)
  else
    if v4 = 0 then
      zz_v (zX6_stay v1 k0 st) fun st8 =>
      (false, st8)
    else
      if v4 = 2 then
        zz_v (zz_add 16 v1 5 (-1) st) fun st2 =>
        if 0 < (zz_g 16 v1 5 st2) then
          (false, st2)
        else
          zz_v (zz_set 16 v1 2 3 st2) fun st4 =>
          zz_v (zz_set 16 v1 3 (-1) st4) fun st6 =>
          (true, st6)
      else
        (false, st)
set_option maxHeartbeats 4000000 in
set_option maxRecDepth 100000 in
theorem zt_X6_move_20 {l : Launch} {A : Nat → Prop} {D : va_G} {cI : ClassId} {q : Nat → Nat} {p : Program} {e : Env} {s : State} {m : MethodId} {args : Array Value} {below : List Frame} {meth : Method} {c : Code} (C : zz_C A D cI q p s m args meth c cX6_move 6 wsX6_move yX6_move.cls) (hr : meth.sig.returnType = some .boolean) : ∀ (v1 : Int32) (v4 : Int32) (k0 : Bool) (st : zz_T) (H : Heap) (locs : List Loc) (ls : Array Slot) (r : (Bool × zz_T)), zX6_move_20 v1 v4 k0 st = r → va_P D vwCl (zz_c q cI st) H → va_S A s.heap H locs → lv_has ls 6 [(0, .ref (q 5)), (1, .int v1), (3, .ref (q 1)), (4, .int v4)] → W p l e zr_X6_move s m args below meth c H locs 0 0 (zz_Qi A D cI q (zz_b r.1) r.2 below args s) (F0 m 20 ls [.int (zz_b k0)]) := by
  obtain ⟨hx, hb, hml, hown, hts⟩ := id C.1
  intro v1 v4 k0 st H locs ls r hf hP hS hl
  rw [zX6_move_20] at hf
  refine lv_istore (lv' := [(5, .int (zz_b k0)), (0, .ref (q 5)), (1, .int v1), (3, .ref (q 1)), (4, .int v4)]) hx hb dX6_move_20 hl (by decide) rfl (fun ls hl => ?_)
  refine lv_iload hx hb dX6_move_22 (lv_at hl 4 rfl) ?_
  refine lv_iconst (v := 1) hx hb dX6_move_24 (by decide) ?_
  refine lv_icmp_ne (tgt := 39) hx hb dX6_move_25 (by decide) (fun h => ?_) (fun h => ?_)
  · rw [if_neg h] at hf
    refine lv_iload hx hb dX6_move_39 (lv_at hl 4 rfl) ?_
    refine lv_if_ne (tgt := 55) hx hb dX6_move_41 (by decide) (fun h => ?_) (fun h => ?_)
    · rw [if_neg h] at hf
      refine lv_iload hx hb dX6_move_55 (lv_at hl 4 rfl) ?_
      refine lv_iconst (v := 2) hx hb dX6_move_57 (by decide) ?_
      refine lv_icmp_ne (tgt := 105) hx hb dX6_move_58 (by decide) (fun h => ?_) (fun h => ?_)
      · rw [if_neg h] at hf
        refine lv_iconst (v := 0) hx hb dX6_move_105 (by decide) ?_
        rw [← hf]
        exact zz_retz (v := false) C hr hP hS dX6_move_106
      · rw [if_pos h] at hf
        refine lv_aload_n hx hb dX6_move_61 rfl (lv_at hl 1 rfl) ?_
        refine zz_getf C zi_X6_move_X6 hP 5 rfl rfl 0 (nm := "trains") (ds := "LThirteenthDay$Table;") (fin := true) rfl (by decide) zk_X6_move_16 rfl dX6_move_62 ?_
        refine lv_iload_n hx hb dX6_move_65 rfl (lv_at hl 2 rfl) ?_
        refine lv_iconst (v := 5) hx hb dX6_move_66 (by decide) ?_
        refine lv_iconst (v := (-1)) hx hb dX6_move_67 (by decide) ?_
        obtain ⟨st2, e3, hf⟩ := zz_vo hf
        refine zz_callVv C (As := [.int v1, .int 5, .int (-1)]) (rest := []) (zz_Mv_e e3 (zc_X5_add 16 (by decide) _ _ _ _)) (cwV 3 hts gX6_move_X5_add rfl rfl rfl zd_X5_add ⟨Nat.le_of_ble_eq_true rfl, Nat.le_of_ble_eq_true rfl⟩) hP hS (9 + 16) (zz_c_tab (by decide)) rfl rfl hl rfl (Nat.le_of_ble_eq_true rfl) dX6_move_68 ⟨Nat.zero_le _, Nat.zero_le _⟩ (fun H locs hP hS => ?_)
        refine lv_aload_n hx hb dX6_move_71 rfl (lv_at hl 1 rfl) ?_
        refine zz_getf C zi_X6_move_X6 hP 5 rfl rfl 0 (nm := "trains") (ds := "LThirteenthDay$Table;") (fin := true) rfl (by decide) zk_X6_move_16 rfl dX6_move_72 ?_
        refine lv_iload_n hx hb dX6_move_75 rfl (lv_at hl 2 rfl) ?_
        refine lv_iconst (v := 5) hx hb dX6_move_76 (by decide) ?_
        refine zz_callVi C (As := [.int v1, .int 5]) (rest := []) (zc_X5_get 16 (by decide) _ _ _) (cwV 2 hts gX6_move_X5_get rfl rfl rfl zd_X5_get ⟨Nat.le_of_ble_eq_true rfl, Nat.le_of_ble_eq_true rfl⟩) hP hS (9 + 16) (zz_c_tab (by decide)) rfl rfl hl rfl (Nat.le_of_ble_eq_true rfl) dX6_move_77 ⟨Nat.zero_le _, Nat.zero_le _⟩ (fun H locs hP hS => ?_)
        refine lv_if_gt (tgt := 105) hx hb dX6_move_80 (by decide) (fun h => ?_) (fun h => ?_)
        · rw [if_pos h] at hf
          refine lv_iconst (v := 0) hx hb dX6_move_105 (by decide) ?_
          rw [← hf]
          exact zz_retz (v := false) C hr hP hS dX6_move_106
        · rw [if_neg h] at hf
          refine lv_aload_n hx hb dX6_move_83 rfl (lv_at hl 1 rfl) ?_
          refine zz_getf C zi_X6_move_X6 hP 5 rfl rfl 0 (nm := "trains") (ds := "LThirteenthDay$Table;") (fin := true) rfl (by decide) zk_X6_move_16 rfl dX6_move_84 ?_
          refine lv_iload_n hx hb dX6_move_87 rfl (lv_at hl 2 rfl) ?_
          refine lv_iconst (v := 2) hx hb dX6_move_88 (by decide) ?_
          refine lv_iconst (v := 3) hx hb dX6_move_89 (by decide) ?_
          obtain ⟨st4, e5, hf⟩ := zz_vo hf
          refine zz_callVv C (As := [.int v1, .int 2, .int 3]) (rest := []) (zz_Mv_e e5 (zc_X5_set 16 (by decide) _ _ _ _)) (cwV 3 hts gX6_move_X5_set rfl rfl rfl zd_X5_set ⟨Nat.le_of_ble_eq_true rfl, Nat.le_of_ble_eq_true rfl⟩) hP hS (9 + 16) (zz_c_tab (by decide)) rfl rfl hl rfl (Nat.le_of_ble_eq_true rfl) dX6_move_90 ⟨Nat.zero_le _, Nat.zero_le _⟩ (fun H locs hP hS => ?_)
          refine lv_aload_n hx hb dX6_move_93 rfl (lv_at hl 1 rfl) ?_
          refine zz_getf C zi_X6_move_X6 hP 5 rfl rfl 0 (nm := "trains") (ds := "LThirteenthDay$Table;") (fin := true) rfl (by decide) zk_X6_move_16 rfl dX6_move_94 ?_
          refine lv_iload_n hx hb dX6_move_97 rfl (lv_at hl 2 rfl) ?_
          refine lv_iconst (v := 3) hx hb dX6_move_98 (by decide) ?_
          refine lv_iconst (v := (-1)) hx hb dX6_move_99 (by decide) ?_
          obtain ⟨st6, e7, hf⟩ := zz_vo hf
          refine zz_callVv C (As := [.int v1, .int 3, .int (-1)]) (rest := []) (zz_Mv_e e7 (zc_X5_set 16 (by decide) _ _ _ _)) (cwV 3 hts gX6_move_X5_set rfl rfl rfl zd_X5_set ⟨Nat.le_of_ble_eq_true rfl, Nat.le_of_ble_eq_true rfl⟩) hP hS (9 + 16) (zz_c_tab (by decide)) rfl rfl hl rfl (Nat.le_of_ble_eq_true rfl) dX6_move_100 ⟨Nat.zero_le _, Nat.zero_le _⟩ (fun H locs hP hS => ?_)
          refine lv_iconst (v := 1) hx hb dX6_move_103 (by decide) ?_
          rw [← hf]
          exact zz_retz (v := true) C hr hP hS dX6_move_104
    · rw [if_pos h] at hf
      refine lv_aload_n hx hb dX6_move_44 rfl (lv_at hl 1 rfl) ?_
      refine lv_iload_n hx hb dX6_move_45 rfl (lv_at hl 2 rfl) ?_
      refine lv_iload hx hb dX6_move_46 (lv_at hl 0 rfl) ?_
      refine lv_aload_n hx hb dX6_move_48 rfl (lv_at hl 3 rfl) ?_
      obtain ⟨st8, e9, hf⟩ := zz_vo hf
      refine zz_callVv C (As := [.int v1, .int (zz_b k0), .ref (q 1)]) (rest := []) (zz_Mv_e e9 (zc_X6_stay _ k0 _)) (cwV 3 hts gX6_move_X6_stay rfl rfl rfl zd_X6_stay ⟨Nat.le_of_ble_eq_true rfl, Nat.le_of_ble_eq_true rfl⟩) hP hS 5 rfl rfl rfl hl rfl (Nat.le_of_ble_eq_true rfl) dX6_move_49 ⟨Nat.zero_le _, Nat.zero_le _⟩ (fun H locs hP hS => ?_)
      refine lv_goto (tgt := 105) hx hb dX6_move_52 (by decide) ?_
      refine lv_iconst (v := 0) hx hb dX6_move_105 (by decide) ?_
      rw [← hf]
      exact zz_retz (v := false) C hr hP hS dX6_move_106
  · rw [if_pos h] at hf
    refine lv_aload_n hx hb dX6_move_28 rfl (lv_at hl 1 rfl) ?_
    refine lv_iload_n hx hb dX6_move_29 rfl (lv_at hl 2 rfl) ?_
    refine lv_iload hx hb dX6_move_30 (lv_at hl 0 rfl) ?_
    refine lv_aload_n hx hb dX6_move_32 rfl (lv_at hl 3 rfl) ?_
    obtain ⟨st10, e11, hf⟩ := zz_vo hf
    refine zz_callVv C (As := [.int v1, .int (zz_b k0), .ref (q 1)]) (rest := []) (zz_Mv_e e11 (zc_X6_run _ k0 _)) (cwV 3 hts gX6_move_X6_run rfl rfl rfl zd_X6_run ⟨Nat.le_of_ble_eq_true rfl, Nat.le_of_ble_eq_true rfl⟩) hP hS 5 rfl rfl rfl hl rfl (Nat.le_of_ble_eq_true rfl) dX6_move_33 ⟨Nat.zero_le _, Nat.zero_le _⟩ (fun H locs hP hS => ?_)
    refine lv_goto (tgt := 105) hx hb dX6_move_36 (by decide) ?_
    refine lv_iconst (v := 0) hx hb dX6_move_105 (by decide) ?_
    rw [← hf]
    exact zz_retz (v := false) C hr hP hS dX6_move_106
def zX6_move (v1 : Int32) (v2 : Int32) (st : zz_T) : (Bool × zz_T) :=
  zz_v (zz_g 16 v1 2 st) fun w1 =>
  if v2 = 0 then
    zX6_move_20 v1 w1 true st
  else
    zX6_move_20 v1 w1 false st
set_option maxHeartbeats 4000000 in
set_option maxRecDepth 100000 in
theorem zc_X6_move {l : Launch} {A : Nat → Prop} {D : va_G} {cI : ClassId} {q : Nat → Nat} (v1 : Int32) (v2 : Int32) (st : zz_T) : zz_Mi l A D cI q yX6_move wsX6_move zr_X6_move [.ref (q 5), .int v1, .int v2, .ref (q 1)] st (zz_b (zX6_move v1 v2 st).1) (zX6_move v1 v2 st).2 := by
  refine zz_of (cc := cX6_move) (nL := 6) (ret := some .boolean) (by decide) rfl (Nat.le_of_ble_eq_true rfl) ?_
  intro p e s m args below meth c ls C hr hP hS hl
  obtain ⟨hx, hb, hml, hown, hts⟩ := id C.1
  have hl : lv_has ls 6 [(0, .ref (q 5)), (1, .int v1), (2, .int v2), (3, .ref (q 1))] := hl
  obtain ⟨r, hf⟩ : ∃ r, zX6_move v1 v2 st = r := ⟨_, rfl⟩
  rw [hf]
  rw [zX6_move] at hf
  skip
  refine lv_aload_n hx hb dX6_move_0 rfl (lv_at hl 0 rfl) ?_
  refine zz_getf C zi_X6_move_X6 hP 5 rfl rfl 0 (nm := "trains") (ds := "LThirteenthDay$Table;") (fin := true) rfl (by decide) zk_X6_move_16 rfl dX6_move_1 ?_
  refine lv_iload_n hx hb dX6_move_4 rfl (lv_at hl 1 rfl) ?_
  refine lv_iconst (v := 2) hx hb dX6_move_5 (by decide) ?_
  refine zz_callVi C (As := [.int v1, .int 2]) (rest := []) (zc_X5_get 16 (by decide) _ _ _) (cwV 2 hts gX6_move_X5_get rfl rfl rfl zd_X5_get ⟨Nat.le_of_ble_eq_true rfl, Nat.le_of_ble_eq_true rfl⟩) hP hS (9 + 16) (zz_c_tab (by decide)) rfl rfl hl rfl (Nat.le_of_ble_eq_true rfl) dX6_move_6 ⟨Nat.zero_le _, Nat.zero_le _⟩ (fun H locs hP hS => ?_)
  refine lv_topi (fun w1 e1 => ?_)
  replace hf := zz_vi hf e1
  refine lv_istore (lv' := [(4, .int w1), (0, .ref (q 5)), (1, .int v1), (2, .int v2), (3, .ref (q 1))]) hx hb dX6_move_9 hl (by decide) rfl (fun ls hl => ?_)
  refine lv_iload_n hx hb dX6_move_11 rfl (lv_at hl 3 rfl) ?_
  refine lv_if_ne (tgt := 19) hx hb dX6_move_12 (by decide) (fun h => ?_) (fun h => ?_)
  · rw [if_neg h] at hf
    refine lv_iconst (v := 0) hx hb dX6_move_19 (by decide) ?_
    exact zt_X6_move_20 C hr _ _ _ _ _ _ _ _ hf hP hS (lv_sub hl [1, 2, 4, 0] rfl)
  · rw [if_pos h] at hf
    refine lv_iconst (v := 1) hx hb dX6_move_15 (by decide) ?_
    refine lv_goto (tgt := 20) hx hb dX6_move_16 (by decide) ?_
    exact zt_X6_move_20 C hr _ _ _ _ _ _ _ _ hf hP hS (lv_sub hl [1, 2, 4, 0] rfl)
/-! X6_set TW -/
theorem zd_X6_set : yX6_set.cls = RX6 ∧ yX6_set.cls ≠ "java/lang/invoke/MethodHandle" ∧ yX6_set.cls ≠ "java/lang/invoke/VarHandle" ∧ (parseMethodDescriptor yX6_set.desc).map (fun d => d.parameters.length) = some 3 := by decide +kernel
abbrev zr_X6_set : Room := { frames := 1, cells := 0, slots := 0, locals := 24 }
theorem zk_X6_set_16 : Cond.fieldLink yX6_set.cls 16 RX6 "trains" "LThirteenthDay$Table;" ∈ wsX6_set := by decide +kernel
theorem zi_X6_set_X6 : ∀ w ∈ u_ws RX6 TX6 3, w ∈ wsX6_set := by decide +kernel
def zX6_set (v1 : Int32) (v2 : Int32) (v3 : Int32) (st : zz_T) : zz_T :=
  zz_v (zz_set 16 v1 v2 v3 st) fun st1 =>
  st1
set_option maxHeartbeats 4000000 in
set_option maxRecDepth 100000 in
theorem zc_X6_set {l : Launch} {A : Nat → Prop} {D : va_G} {cI : ClassId} {q : Nat → Nat} (v1 : Int32) (v2 : Int32) (v3 : Int32) (st : zz_T) : zz_Mv l A D cI q yX6_set wsX6_set zr_X6_set [.ref (q 5), .int v1, .int v2, .int v3] st (zX6_set v1 v2 v3 st) := by
  refine zz_of (cc := cX6_set) (nL := 4) (ret := none) (by decide) rfl (Nat.le_of_ble_eq_true rfl) ?_
  intro p e s m args below meth c ls C hr hP hS hl
  obtain ⟨hx, hb, hml, hown, hts⟩ := id C.1
  have hl : lv_has ls 4 [(0, .ref (q 5)), (1, .int v1), (2, .int v2), (3, .int v3)] := hl
  obtain ⟨r, hf⟩ : ∃ r, zX6_set v1 v2 v3 st = r := ⟨_, rfl⟩
  rw [hf]
  rw [zX6_set] at hf
  skip
  refine lv_aload_n hx hb dX6_set_0 rfl (lv_at hl 0 rfl) ?_
  refine zz_getf C zi_X6_set_X6 hP 5 rfl rfl 0 (nm := "trains") (ds := "LThirteenthDay$Table;") (fin := true) rfl (by decide) zk_X6_set_16 rfl dX6_set_1 ?_
  refine lv_iload_n hx hb dX6_set_4 rfl (lv_at hl 1 rfl) ?_
  refine lv_iload_n hx hb dX6_set_5 rfl (lv_at hl 2 rfl) ?_
  refine lv_iload_n hx hb dX6_set_6 rfl (lv_at hl 3 rfl) ?_
  obtain ⟨st1, e2, hf⟩ := zz_vo hf
  refine zz_callVv C (As := [.int v1, .int v2, .int v3]) (rest := []) (zz_Mv_e e2 (zc_X5_set 16 (by decide) _ _ _ _)) (cwV 3 hts gX6_set_X5_set rfl rfl rfl zd_X5_set ⟨Nat.le_of_ble_eq_true rfl, Nat.le_of_ble_eq_true rfl⟩) hP hS (9 + 16) (zz_c_tab (by decide)) rfl rfl hl rfl (Nat.le_of_ble_eq_true rfl) dX6_set_7 ⟨Nat.zero_le _, Nat.zero_le _⟩ (fun H locs hP hS => ?_)
  rw [← hf]
  exact zz_retv C hr hP hS dX6_set_10
/-! X6_stand TW -/
theorem zd_X6_stand : yX6_stand.cls = RX6 ∧ yX6_stand.cls ≠ "java/lang/invoke/MethodHandle" ∧ yX6_stand.cls ≠ "java/lang/invoke/VarHandle" ∧ (parseMethodDescriptor yX6_stand.desc).map (fun d => d.parameters.length) = some 3 := by decide +kernel
abbrev zr_X6_stand : Room := { frames := 1, cells := 0, slots := 0, locals := 24 }
theorem zk_X6_stand_23 : Cond.fieldLink yX6_stand.cls 23 RX6 "trainCount" "I" ∈ wsX6_stand := by decide +kernel
theorem zk_X6_stand_16 : Cond.fieldLink yX6_stand.cls 16 RX6 "trains" "LThirteenthDay$Table;" ∈ wsX6_stand := by decide +kernel
theorem zi_X6_stand_X6 : ∀ w ∈ u_ws RX6 TX6 3, w ∈ wsX6_stand := by decide +kernel
def zX6_stand (v1 : Int32) (v2 : Int32) (v3 : Int32) (st : zz_T) : (Int32 × zz_T) :=
  zz_v (st.2 5) fun w1 =>
  zz_v (zz_set 16 w1 0 v1 st) fun st2 =>
  zz_v (zz_set 16 w1 1 v2 st2) fun st4 =>
  zz_v (zz_set 16 w1 2 0 st4) fun st6 =>
  zz_v (zz_set 16 w1 3 v3 st6) fun st8 =>
  zz_v (zz_set 16 w1 4 (-1) st8) fun st10 =>
  zz_v (zz_set 16 w1 12 v3 st10) fun st12 =>
  zz_v (zz_set 16 w1 15 (-1) st12) fun st14 =>
  zz_v (zz_S 5 ((st14.2 5) + 1) st14) fun st16 =>
  (w1, st16)
set_option maxHeartbeats 4000000 in
set_option maxRecDepth 100000 in
theorem zc_X6_stand {l : Launch} {A : Nat → Prop} {D : va_G} {cI : ClassId} {q : Nat → Nat} (v1 : Int32) (v2 : Int32) (v3 : Int32) (st : zz_T) : zz_Mi l A D cI q yX6_stand wsX6_stand zr_X6_stand [.ref (q 5), .int v1, .int v2, .int v3] st (zX6_stand v1 v2 v3 st).1 (zX6_stand v1 v2 v3 st).2 := by
  refine zz_of (cc := cX6_stand) (nL := 5) (ret := some .int) (by decide) rfl (Nat.le_of_ble_eq_true rfl) ?_
  intro p e s m args below meth c ls C hr hP hS hl
  obtain ⟨hx, hb, hml, hown, hts⟩ := id C.1
  have hl : lv_has ls 5 [(0, .ref (q 5)), (1, .int v1), (2, .int v2), (3, .int v3)] := hl
  obtain ⟨r, hf⟩ : ∃ r, zX6_stand v1 v2 v3 st = r := ⟨_, rfl⟩
  rw [hf]
  rw [zX6_stand] at hf
  skip
  refine lv_aload_n hx hb dX6_stand_0 rfl (lv_at hl 0 rfl) ?_
  refine zz_getf C zi_X6_stand_X6 hP 5 rfl rfl 2 (nm := "trainCount") (ds := "I") (fin := false) rfl (by decide) zk_X6_stand_23 rfl dX6_stand_1 ?_
  refine lv_topi (fun w1 e1 => ?_)
  replace hf := zz_vi hf e1
  refine lv_istore (lv' := [(4, .int w1), (0, .ref (q 5)), (1, .int v1), (2, .int v2), (3, .int v3)]) hx hb dX6_stand_4 hl (by decide) rfl (fun ls hl => ?_)
  refine lv_aload_n hx hb dX6_stand_6 rfl (lv_at hl 1 rfl) ?_
  refine zz_getf C zi_X6_stand_X6 hP 5 rfl rfl 0 (nm := "trains") (ds := "LThirteenthDay$Table;") (fin := true) rfl (by decide) zk_X6_stand_16 rfl dX6_stand_7 ?_
  refine lv_iload hx hb dX6_stand_10 (lv_at hl 0 rfl) ?_
  refine lv_iconst (v := 0) hx hb dX6_stand_12 (by decide) ?_
  refine lv_iload_n hx hb dX6_stand_13 rfl (lv_at hl 2 rfl) ?_
  obtain ⟨st2, e3, hf⟩ := zz_vo hf
  refine zz_callVv C (As := [.int w1, .int 0, .int v1]) (rest := []) (zz_Mv_e e3 (zc_X5_set 16 (by decide) _ _ _ _)) (cwV 3 hts gX6_stand_X5_set rfl rfl rfl zd_X5_set ⟨Nat.le_of_ble_eq_true rfl, Nat.le_of_ble_eq_true rfl⟩) hP hS (9 + 16) (zz_c_tab (by decide)) rfl rfl hl rfl (Nat.le_of_ble_eq_true rfl) dX6_stand_14 ⟨Nat.zero_le _, Nat.zero_le _⟩ (fun H locs hP hS => ?_)
  refine lv_aload_n hx hb dX6_stand_17 rfl (lv_at hl 1 rfl) ?_
  refine zz_getf C zi_X6_stand_X6 hP 5 rfl rfl 0 (nm := "trains") (ds := "LThirteenthDay$Table;") (fin := true) rfl (by decide) zk_X6_stand_16 rfl dX6_stand_18 ?_
  refine lv_iload hx hb dX6_stand_21 (lv_at hl 0 rfl) ?_
  refine lv_iconst (v := 1) hx hb dX6_stand_23 (by decide) ?_
  refine lv_iload_n hx hb dX6_stand_24 rfl (lv_at hl 3 rfl) ?_
  obtain ⟨st4, e5, hf⟩ := zz_vo hf
  refine zz_callVv C (As := [.int w1, .int 1, .int v2]) (rest := []) (zz_Mv_e e5 (zc_X5_set 16 (by decide) _ _ _ _)) (cwV 3 hts gX6_stand_X5_set rfl rfl rfl zd_X5_set ⟨Nat.le_of_ble_eq_true rfl, Nat.le_of_ble_eq_true rfl⟩) hP hS (9 + 16) (zz_c_tab (by decide)) rfl rfl hl rfl (Nat.le_of_ble_eq_true rfl) dX6_stand_25 ⟨Nat.zero_le _, Nat.zero_le _⟩ (fun H locs hP hS => ?_)
  refine lv_aload_n hx hb dX6_stand_28 rfl (lv_at hl 1 rfl) ?_
  refine zz_getf C zi_X6_stand_X6 hP 5 rfl rfl 0 (nm := "trains") (ds := "LThirteenthDay$Table;") (fin := true) rfl (by decide) zk_X6_stand_16 rfl dX6_stand_29 ?_
  refine lv_iload hx hb dX6_stand_32 (lv_at hl 0 rfl) ?_
  refine lv_iconst (v := 2) hx hb dX6_stand_34 (by decide) ?_
  refine lv_iconst (v := 0) hx hb dX6_stand_35 (by decide) ?_
  obtain ⟨st6, e7, hf⟩ := zz_vo hf
  refine zz_callVv C (As := [.int w1, .int 2, .int 0]) (rest := []) (zz_Mv_e e7 (zc_X5_set 16 (by decide) _ _ _ _)) (cwV 3 hts gX6_stand_X5_set rfl rfl rfl zd_X5_set ⟨Nat.le_of_ble_eq_true rfl, Nat.le_of_ble_eq_true rfl⟩) hP hS (9 + 16) (zz_c_tab (by decide)) rfl rfl hl rfl (Nat.le_of_ble_eq_true rfl) dX6_stand_36 ⟨Nat.zero_le _, Nat.zero_le _⟩ (fun H locs hP hS => ?_)
  refine lv_aload_n hx hb dX6_stand_39 rfl (lv_at hl 1 rfl) ?_
  refine zz_getf C zi_X6_stand_X6 hP 5 rfl rfl 0 (nm := "trains") (ds := "LThirteenthDay$Table;") (fin := true) rfl (by decide) zk_X6_stand_16 rfl dX6_stand_40 ?_
  refine lv_iload hx hb dX6_stand_43 (lv_at hl 0 rfl) ?_
  refine lv_iconst (v := 3) hx hb dX6_stand_45 (by decide) ?_
  refine lv_iload_n hx hb dX6_stand_46 rfl (lv_at hl 4 rfl) ?_
  obtain ⟨st8, e9, hf⟩ := zz_vo hf
  refine zz_callVv C (As := [.int w1, .int 3, .int v3]) (rest := []) (zz_Mv_e e9 (zc_X5_set 16 (by decide) _ _ _ _)) (cwV 3 hts gX6_stand_X5_set rfl rfl rfl zd_X5_set ⟨Nat.le_of_ble_eq_true rfl, Nat.le_of_ble_eq_true rfl⟩) hP hS (9 + 16) (zz_c_tab (by decide)) rfl rfl hl rfl (Nat.le_of_ble_eq_true rfl) dX6_stand_47 ⟨Nat.zero_le _, Nat.zero_le _⟩ (fun H locs hP hS => ?_)
  refine lv_aload_n hx hb dX6_stand_50 rfl (lv_at hl 1 rfl) ?_
  refine zz_getf C zi_X6_stand_X6 hP 5 rfl rfl 0 (nm := "trains") (ds := "LThirteenthDay$Table;") (fin := true) rfl (by decide) zk_X6_stand_16 rfl dX6_stand_51 ?_
  refine lv_iload hx hb dX6_stand_54 (lv_at hl 0 rfl) ?_
  refine lv_iconst (v := 4) hx hb dX6_stand_56 (by decide) ?_
  refine lv_iconst (v := (-1)) hx hb dX6_stand_57 (by decide) ?_
  obtain ⟨st10, e11, hf⟩ := zz_vo hf
  refine zz_callVv C (As := [.int w1, .int 4, .int (-1)]) (rest := []) (zz_Mv_e e11 (zc_X5_set 16 (by decide) _ _ _ _)) (cwV 3 hts gX6_stand_X5_set rfl rfl rfl zd_X5_set ⟨Nat.le_of_ble_eq_true rfl, Nat.le_of_ble_eq_true rfl⟩) hP hS (9 + 16) (zz_c_tab (by decide)) rfl rfl hl rfl (Nat.le_of_ble_eq_true rfl) dX6_stand_58 ⟨Nat.zero_le _, Nat.zero_le _⟩ (fun H locs hP hS => ?_)
  refine lv_aload_n hx hb dX6_stand_61 rfl (lv_at hl 1 rfl) ?_
  refine zz_getf C zi_X6_stand_X6 hP 5 rfl rfl 0 (nm := "trains") (ds := "LThirteenthDay$Table;") (fin := true) rfl (by decide) zk_X6_stand_16 rfl dX6_stand_62 ?_
  refine lv_iload hx hb dX6_stand_65 (lv_at hl 0 rfl) ?_
  refine lv_bipush (v := 12) hx hb dX6_stand_67 (by decide) ?_
  refine lv_iload_n hx hb dX6_stand_69 rfl (lv_at hl 4 rfl) ?_
  obtain ⟨st12, e13, hf⟩ := zz_vo hf
  refine zz_callVv C (As := [.int w1, .int 12, .int v3]) (rest := []) (zz_Mv_e e13 (zc_X5_set 16 (by decide) _ _ _ _)) (cwV 3 hts gX6_stand_X5_set rfl rfl rfl zd_X5_set ⟨Nat.le_of_ble_eq_true rfl, Nat.le_of_ble_eq_true rfl⟩) hP hS (9 + 16) (zz_c_tab (by decide)) rfl rfl hl rfl (Nat.le_of_ble_eq_true rfl) dX6_stand_70 ⟨Nat.zero_le _, Nat.zero_le _⟩ (fun H locs hP hS => ?_)
  refine lv_aload_n hx hb dX6_stand_73 rfl (lv_at hl 1 rfl) ?_
  refine zz_getf C zi_X6_stand_X6 hP 5 rfl rfl 0 (nm := "trains") (ds := "LThirteenthDay$Table;") (fin := true) rfl (by decide) zk_X6_stand_16 rfl dX6_stand_74 ?_
  refine lv_iload hx hb dX6_stand_77 (lv_at hl 0 rfl) ?_
  refine lv_bipush (v := 15) hx hb dX6_stand_79 (by decide) ?_
  refine lv_iconst (v := (-1)) hx hb dX6_stand_81 (by decide) ?_
  obtain ⟨st14, e15, hf⟩ := zz_vo hf
  refine zz_callVv C (As := [.int w1, .int 15, .int (-1)]) (rest := []) (zz_Mv_e e15 (zc_X5_set 16 (by decide) _ _ _ _)) (cwV 3 hts gX6_stand_X5_set rfl rfl rfl zd_X5_set ⟨Nat.le_of_ble_eq_true rfl, Nat.le_of_ble_eq_true rfl⟩) hP hS (9 + 16) (zz_c_tab (by decide)) rfl rfl hl rfl (Nat.le_of_ble_eq_true rfl) dX6_stand_82 ⟨Nat.zero_le _, Nat.zero_le _⟩ (fun H locs hP hS => ?_)
  refine lv_aload_n hx hb dX6_stand_85 rfl (lv_at hl 1 rfl) ?_
  refine lv_dup hx hb dX6_stand_86 rfl ?_
  refine zz_getf C zi_X6_stand_X6 hP 5 rfl rfl 2 (nm := "trainCount") (ds := "I") (fin := false) rfl (by decide) zk_X6_stand_23 rfl dX6_stand_87 ?_
  refine lv_iconst (v := 1) hx hb dX6_stand_90 (by decide) ?_
  refine lv_iadd hx hb dX6_stand_91 ?_
  obtain ⟨st16, e17, hf⟩ := zz_vo hf
  refine zz_putf (st' := st16) C zi_X6_stand_X6 tyX6 tyX6_ok nmX6 hP hS 5 rfl rfl 2 (nm := "trainCount") rfl (by decide) zk_X6_stand_23 (Nat.le_of_ble_eq_true rfl) (by rw [← e17]; rfl) dX6_stand_92 (fun H locs hP hS => ?_)
  refine lv_iload hx hb dX6_stand_95 (lv_at hl 0 rfl) ?_
  rw [← hf]
  exact zz_reti C hr hP hS dX6_stand_97
/-! X7_add TW -/
theorem zd_X7_add : yX7_add.cls = RX7 ∧ yX7_add.cls ≠ "java/lang/invoke/MethodHandle" ∧ yX7_add.cls ≠ "java/lang/invoke/VarHandle" ∧ (parseMethodDescriptor yX7_add.desc).map (fun d => d.parameters.length) = some 4 := by decide +kernel
abbrev zr_X7_add : Room := { frames := 1, cells := 0, slots := 0, locals := 24 }
theorem zk_X7_add_23 : Cond.fieldLink yX7_add.cls 23 RX7 "unitCount" "I" ∈ wsX7_add := by decide +kernel
theorem zk_X7_add_16 : Cond.fieldLink yX7_add.cls 16 RX7 "units" "LThirteenthDay$Table;" ∈ wsX7_add := by decide +kernel
theorem zi_X7_add_X7 : ∀ w ∈ u_ws RX7 TX7 3, w ∈ wsX7_add := by decide +kernel
def zX7_add (v1 : Int32) (v2 : Int32) (v3 : Int32) (v4 : Int32) (st : zz_T) : (Int32 × zz_T) :=
  zz_v (st.2 4) fun w1 =>
  zz_v (zz_set 4 w1 0 v1 st) fun st2 =>
  zz_v (zz_set 4 w1 1 v2 st2) fun st4 =>
  zz_v (zz_set 4 w1 2 v3 st4) fun st6 =>
  zz_v (zz_set 4 w1 3 v4 st6) fun st8 =>
  zz_v (zz_set 4 w1 5 (-1) st8) fun st10 =>
  zz_v (zz_set 4 w1 10 (-1) st10) fun st12 =>
  zz_v (zz_set 4 w1 11 (-1) st12) fun st14 =>
  zz_v (zz_S 4 ((st14.2 4) + 1) st14) fun st16 =>
  (w1, st16)
set_option maxHeartbeats 4000000 in
set_option maxRecDepth 100000 in
theorem zc_X7_add {l : Launch} {A : Nat → Prop} {D : va_G} {cI : ClassId} {q : Nat → Nat} (v1 : Int32) (v2 : Int32) (v3 : Int32) (v4 : Int32) (st : zz_T) : zz_Mi l A D cI q yX7_add wsX7_add zr_X7_add [.ref (q 2), .int v1, .int v2, .int v3, .int v4] st (zX7_add v1 v2 v3 v4 st).1 (zX7_add v1 v2 v3 v4 st).2 := by
  refine zz_of (cc := cX7_add) (nL := 6) (ret := some .int) (by decide) rfl (Nat.le_of_ble_eq_true rfl) ?_
  intro p e s m args below meth c ls C hr hP hS hl
  obtain ⟨hx, hb, hml, hown, hts⟩ := id C.1
  have hl : lv_has ls 6 [(0, .ref (q 2)), (1, .int v1), (2, .int v2), (3, .int v3), (4, .int v4)] := hl
  obtain ⟨r, hf⟩ : ∃ r, zX7_add v1 v2 v3 v4 st = r := ⟨_, rfl⟩
  rw [hf]
  rw [zX7_add] at hf
  skip
  refine lv_aload_n hx hb dX7_add_0 rfl (lv_at hl 0 rfl) ?_
  refine zz_getf C zi_X7_add_X7 hP 2 rfl rfl 2 (nm := "unitCount") (ds := "I") (fin := false) rfl (by decide) zk_X7_add_23 rfl dX7_add_1 ?_
  refine lv_topi (fun w1 e1 => ?_)
  replace hf := zz_vi hf e1
  refine lv_istore (lv' := [(5, .int w1), (0, .ref (q 2)), (1, .int v1), (2, .int v2), (3, .int v3), (4, .int v4)]) hx hb dX7_add_4 hl (by decide) rfl (fun ls hl => ?_)
  refine lv_aload_n hx hb dX7_add_6 rfl (lv_at hl 1 rfl) ?_
  refine zz_getf C zi_X7_add_X7 hP 2 rfl rfl 0 (nm := "units") (ds := "LThirteenthDay$Table;") (fin := true) rfl (by decide) zk_X7_add_16 rfl dX7_add_7 ?_
  refine lv_iload hx hb dX7_add_10 (lv_at hl 0 rfl) ?_
  refine lv_iconst (v := 0) hx hb dX7_add_12 (by decide) ?_
  refine lv_iload_n hx hb dX7_add_13 rfl (lv_at hl 2 rfl) ?_
  obtain ⟨st2, e3, hf⟩ := zz_vo hf
  refine zz_callVv C (As := [.int w1, .int 0, .int v1]) (rest := []) (zz_Mv_e e3 (zc_X5_set 4 (by decide) _ _ _ _)) (cwV 3 hts gX7_add_X5_set rfl rfl rfl zd_X5_set ⟨Nat.le_of_ble_eq_true rfl, Nat.le_of_ble_eq_true rfl⟩) hP hS (9 + 4) (zz_c_tab (by decide)) rfl rfl hl rfl (Nat.le_of_ble_eq_true rfl) dX7_add_14 ⟨Nat.zero_le _, Nat.zero_le _⟩ (fun H locs hP hS => ?_)
  refine lv_aload_n hx hb dX7_add_17 rfl (lv_at hl 1 rfl) ?_
  refine zz_getf C zi_X7_add_X7 hP 2 rfl rfl 0 (nm := "units") (ds := "LThirteenthDay$Table;") (fin := true) rfl (by decide) zk_X7_add_16 rfl dX7_add_18 ?_
  refine lv_iload hx hb dX7_add_21 (lv_at hl 0 rfl) ?_
  refine lv_iconst (v := 1) hx hb dX7_add_23 (by decide) ?_
  refine lv_iload_n hx hb dX7_add_24 rfl (lv_at hl 3 rfl) ?_
  obtain ⟨st4, e5, hf⟩ := zz_vo hf
  refine zz_callVv C (As := [.int w1, .int 1, .int v2]) (rest := []) (zz_Mv_e e5 (zc_X5_set 4 (by decide) _ _ _ _)) (cwV 3 hts gX7_add_X5_set rfl rfl rfl zd_X5_set ⟨Nat.le_of_ble_eq_true rfl, Nat.le_of_ble_eq_true rfl⟩) hP hS (9 + 4) (zz_c_tab (by decide)) rfl rfl hl rfl (Nat.le_of_ble_eq_true rfl) dX7_add_25 ⟨Nat.zero_le _, Nat.zero_le _⟩ (fun H locs hP hS => ?_)
  refine lv_aload_n hx hb dX7_add_28 rfl (lv_at hl 1 rfl) ?_
  refine zz_getf C zi_X7_add_X7 hP 2 rfl rfl 0 (nm := "units") (ds := "LThirteenthDay$Table;") (fin := true) rfl (by decide) zk_X7_add_16 rfl dX7_add_29 ?_
  refine lv_iload hx hb dX7_add_32 (lv_at hl 0 rfl) ?_
  refine lv_iconst (v := 2) hx hb dX7_add_34 (by decide) ?_
  refine lv_iload_n hx hb dX7_add_35 rfl (lv_at hl 4 rfl) ?_
  obtain ⟨st6, e7, hf⟩ := zz_vo hf
  refine zz_callVv C (As := [.int w1, .int 2, .int v3]) (rest := []) (zz_Mv_e e7 (zc_X5_set 4 (by decide) _ _ _ _)) (cwV 3 hts gX7_add_X5_set rfl rfl rfl zd_X5_set ⟨Nat.le_of_ble_eq_true rfl, Nat.le_of_ble_eq_true rfl⟩) hP hS (9 + 4) (zz_c_tab (by decide)) rfl rfl hl rfl (Nat.le_of_ble_eq_true rfl) dX7_add_36 ⟨Nat.zero_le _, Nat.zero_le _⟩ (fun H locs hP hS => ?_)
  refine lv_aload_n hx hb dX7_add_39 rfl (lv_at hl 1 rfl) ?_
  refine zz_getf C zi_X7_add_X7 hP 2 rfl rfl 0 (nm := "units") (ds := "LThirteenthDay$Table;") (fin := true) rfl (by decide) zk_X7_add_16 rfl dX7_add_40 ?_
  refine lv_iload hx hb dX7_add_43 (lv_at hl 0 rfl) ?_
  refine lv_iconst (v := 3) hx hb dX7_add_45 (by decide) ?_
  refine lv_iload hx hb dX7_add_46 (lv_at hl 5 rfl) ?_
  obtain ⟨st8, e9, hf⟩ := zz_vo hf
  refine zz_callVv C (As := [.int w1, .int 3, .int v4]) (rest := []) (zz_Mv_e e9 (zc_X5_set 4 (by decide) _ _ _ _)) (cwV 3 hts gX7_add_X5_set rfl rfl rfl zd_X5_set ⟨Nat.le_of_ble_eq_true rfl, Nat.le_of_ble_eq_true rfl⟩) hP hS (9 + 4) (zz_c_tab (by decide)) rfl rfl hl rfl (Nat.le_of_ble_eq_true rfl) dX7_add_48 ⟨Nat.zero_le _, Nat.zero_le _⟩ (fun H locs hP hS => ?_)
  refine lv_aload_n hx hb dX7_add_51 rfl (lv_at hl 1 rfl) ?_
  refine zz_getf C zi_X7_add_X7 hP 2 rfl rfl 0 (nm := "units") (ds := "LThirteenthDay$Table;") (fin := true) rfl (by decide) zk_X7_add_16 rfl dX7_add_52 ?_
  refine lv_iload hx hb dX7_add_55 (lv_at hl 0 rfl) ?_
  refine lv_iconst (v := 5) hx hb dX7_add_57 (by decide) ?_
  refine lv_iconst (v := (-1)) hx hb dX7_add_58 (by decide) ?_
  obtain ⟨st10, e11, hf⟩ := zz_vo hf
  refine zz_callVv C (As := [.int w1, .int 5, .int (-1)]) (rest := []) (zz_Mv_e e11 (zc_X5_set 4 (by decide) _ _ _ _)) (cwV 3 hts gX7_add_X5_set rfl rfl rfl zd_X5_set ⟨Nat.le_of_ble_eq_true rfl, Nat.le_of_ble_eq_true rfl⟩) hP hS (9 + 4) (zz_c_tab (by decide)) rfl rfl hl rfl (Nat.le_of_ble_eq_true rfl) dX7_add_59 ⟨Nat.zero_le _, Nat.zero_le _⟩ (fun H locs hP hS => ?_)
  refine lv_aload_n hx hb dX7_add_62 rfl (lv_at hl 1 rfl) ?_
  refine zz_getf C zi_X7_add_X7 hP 2 rfl rfl 0 (nm := "units") (ds := "LThirteenthDay$Table;") (fin := true) rfl (by decide) zk_X7_add_16 rfl dX7_add_63 ?_
  refine lv_iload hx hb dX7_add_66 (lv_at hl 0 rfl) ?_
  refine lv_bipush (v := 10) hx hb dX7_add_68 (by decide) ?_
  refine lv_iconst (v := (-1)) hx hb dX7_add_70 (by decide) ?_
  obtain ⟨st12, e13, hf⟩ := zz_vo hf
  refine zz_callVv C (As := [.int w1, .int 10, .int (-1)]) (rest := []) (zz_Mv_e e13 (zc_X5_set 4 (by decide) _ _ _ _)) (cwV 3 hts gX7_add_X5_set rfl rfl rfl zd_X5_set ⟨Nat.le_of_ble_eq_true rfl, Nat.le_of_ble_eq_true rfl⟩) hP hS (9 + 4) (zz_c_tab (by decide)) rfl rfl hl rfl (Nat.le_of_ble_eq_true rfl) dX7_add_71 ⟨Nat.zero_le _, Nat.zero_le _⟩ (fun H locs hP hS => ?_)
  refine lv_aload_n hx hb dX7_add_74 rfl (lv_at hl 1 rfl) ?_
  refine zz_getf C zi_X7_add_X7 hP 2 rfl rfl 0 (nm := "units") (ds := "LThirteenthDay$Table;") (fin := true) rfl (by decide) zk_X7_add_16 rfl dX7_add_75 ?_
  refine lv_iload hx hb dX7_add_78 (lv_at hl 0 rfl) ?_
  refine lv_bipush (v := 11) hx hb dX7_add_80 (by decide) ?_
  refine lv_iconst (v := (-1)) hx hb dX7_add_82 (by decide) ?_
  obtain ⟨st14, e15, hf⟩ := zz_vo hf
  refine zz_callVv C (As := [.int w1, .int 11, .int (-1)]) (rest := []) (zz_Mv_e e15 (zc_X5_set 4 (by decide) _ _ _ _)) (cwV 3 hts gX7_add_X5_set rfl rfl rfl zd_X5_set ⟨Nat.le_of_ble_eq_true rfl, Nat.le_of_ble_eq_true rfl⟩) hP hS (9 + 4) (zz_c_tab (by decide)) rfl rfl hl rfl (Nat.le_of_ble_eq_true rfl) dX7_add_83 ⟨Nat.zero_le _, Nat.zero_le _⟩ (fun H locs hP hS => ?_)
  refine lv_aload_n hx hb dX7_add_86 rfl (lv_at hl 1 rfl) ?_
  refine lv_dup hx hb dX7_add_87 rfl ?_
  refine zz_getf C zi_X7_add_X7 hP 2 rfl rfl 2 (nm := "unitCount") (ds := "I") (fin := false) rfl (by decide) zk_X7_add_23 rfl dX7_add_88 ?_
  refine lv_iconst (v := 1) hx hb dX7_add_91 (by decide) ?_
  refine lv_iadd hx hb dX7_add_92 ?_
  obtain ⟨st16, e17, hf⟩ := zz_vo hf
  refine zz_putf (st' := st16) C zi_X7_add_X7 tyX7 tyX7_ok nmX7 hP hS 2 rfl rfl 2 (nm := "unitCount") rfl (by decide) zk_X7_add_23 (Nat.le_of_ble_eq_true rfl) (by rw [← e17]; rfl) dX7_add_93 (fun H locs hP hS => ?_)
  refine lv_iload hx hb dX7_add_96 (lv_at hl 0 rfl) ?_
  rw [← hf]
  exact zz_reti C hr hP hS dX7_add_98
/-! X7_come PW -/
theorem zd_X7_come : yX7_come.cls = RX7 ∧ yX7_come.cls ≠ "java/lang/invoke/MethodHandle" ∧ yX7_come.cls ≠ "java/lang/invoke/VarHandle" ∧ (parseMethodDescriptor yX7_come.desc).map (fun d => d.parameters.length) = some 1 := by decide +kernel
abbrev zr_X7_come : Room := { frames := 1, cells := 0, slots := 0, locals := 24 }
theorem zk_X7_come_23 : Cond.fieldLink yX7_come.cls 23 RX7 "unitCount" "I" ∈ wsX7_come := by decide +kernel
theorem zk_X7_come_16 : Cond.fieldLink yX7_come.cls 16 RX7 "units" "LThirteenthDay$Table;" ∈ wsX7_come := by decide +kernel
theorem zk_X7_come_20 : Cond.fieldLink yX7_come.cls 20 RX7 "loads" "LThirteenthDay$Table;" ∈ wsX7_come := by decide +kernel
theorem zi_X7_come_X7 : ∀ w ∈ u_ws RX7 TX7 3, w ∈ wsX7_come := by decide +kernel
def zX7_come_12 (k2 : Int32 → Int32 → zz_T → Option zz_T) : Nat → Int32 → Int32 → Int32 → zz_T → Option zz_T
  | 0, _, _, _, _ => none
  | n + 1, v1, v2, v3, st =>
    if (zz_g 4 v2 1 st) ≤ v3 then
      k2 v1 (v2 + 1) st
    else
      zz_v (zX2_slotOf v2 v3 st) fun w1 =>
      if (zz_g 5 w1 0 st) = 1 then
        if v1 < (zz_g 5 w1 2 st) then
          zX7_come_12 k2 n v1 v2 (v3 + 1) st
        else
          zz_v (zz_set 5 w1 0 2 st) fun st2 =>
          zz_v (zz_add 4 v2 9 1 st2) fun st4 =>
          zX7_come_12 k2 n v1 v2 (v3 + 1) st4
      else
        zX7_come_12 k2 n v1 v2 (v3 + 1) st
set_option maxHeartbeats 4000000 in
set_option maxRecDepth 100000 in
theorem zt_X7_come_12 {l : Launch} {A : Nat → Prop} {D : va_G} {cI : ClassId} {q : Nat → Nat} {p : Program} {e : Env} {s : State} {m : MethodId} {args : Array Value} {below : List Frame} {meth : Method} {c : Code} (C : zz_C A D cI q p s m args meth c cX7_come 5 wsX7_come yX7_come.cls) (hr : meth.sig.returnType = none) (k2 : Int32 → Int32 → zz_T → Option zz_T) (hk2 : ∀ (v1 : Int32) (v2 : Int32) (st : zz_T) (H : Heap) (locs : List Loc) (ls : Array Slot) (r : zz_T), k2 v1 v2 st = some r → va_P D vwCl (zz_c q cI st) H → va_S A s.heap H locs → lv_has ls 5 [(0, .ref (q 2)), (1, .int v1), (2, .int v2)] → W p l e zr_X7_come s m args below meth c H locs 0 0 (zz_Qv A D cI q r below args s) (F0 m 2 ls [])) : ∀ (n : Nat) (v1 : Int32) (v2 : Int32) (v3 : Int32) (st : zz_T) (H : Heap) (locs : List Loc) (ls : Array Slot) (r : zz_T), zX7_come_12 k2 n v1 v2 v3 st = some r → va_P D vwCl (zz_c q cI st) H → va_S A s.heap H locs → lv_has ls 5 [(0, .ref (q 2)), (1, .int v1), (2, .int v2), (3, .int v3)] → W p l e zr_X7_come s m args below meth c H locs 0 0 (zz_Qv A D cI q r below args s) (F0 m 12 ls []) := by
  obtain ⟨hx, hb, hml, hown, hts⟩ := id C.1
  intro n
  induction n with
  | zero => intro v1 v2 v3 st H locs ls r hf; cases hf
  | succ n ih =>
    intro v1 v2 v3 st H locs ls r hf hP hS hl
    rw [zX7_come_12] at hf
    refine lv_iload_n hx hb dX7_come_12 rfl (lv_at hl 3 rfl) ?_
    refine lv_aload_n hx hb dX7_come_13 rfl (lv_at hl 0 rfl) ?_
    refine zz_getf C zi_X7_come_X7 hP 2 rfl rfl 0 (nm := "units") (ds := "LThirteenthDay$Table;") (fin := true) rfl (by decide) zk_X7_come_16 rfl dX7_come_14 ?_
    refine lv_iload_n hx hb dX7_come_17 rfl (lv_at hl 2 rfl) ?_
    refine lv_iconst (v := 1) hx hb dX7_come_18 (by decide) ?_
    refine zz_callVi C (As := [.int v2, .int 1]) (rest := [.int v3]) (zc_X5_get 4 (by decide) _ _ _) (cwV 2 hts gX7_come_X5_get rfl rfl rfl zd_X5_get ⟨Nat.le_of_ble_eq_true rfl, Nat.le_of_ble_eq_true rfl⟩) hP hS (9 + 4) (zz_c_tab (by decide)) rfl rfl hl rfl (Nat.le_of_ble_eq_true rfl) dX7_come_19 ⟨Nat.zero_le _, Nat.zero_le _⟩ (fun H locs hP hS => ?_)
    refine lv_icmp_ge (tgt := 88) hx hb dX7_come_22 (by decide) (fun h => ?_) (fun h => ?_)
    · rw [if_pos h] at hf
      refine lv_iinc (v := (v2 + 1)) (lv' := [(2, .int (v2 + 1)), (0, .ref (q 2)), (1, .int v1), (3, .int v3)]) hx hb dX7_come_88 hl (k := 2) rfl (congrArg (fun z => v2 + z) (by decide)) (by decide) rfl (fun ls hl => ?_)
      refine lv_goto (tgt := 2) hx hb dX7_come_91 (by decide) ?_
      exact hk2 _ _ _ _ _ _ _ hf hP hS (lv_sub hl [1, 2, 0] rfl)
    · rw [if_neg h] at hf
      refine lv_iload_n hx hb dX7_come_25 rfl (lv_at hl 2 rfl) ?_
      refine lv_iload_n hx hb dX7_come_26 rfl (lv_at hl 3 rfl) ?_
      refine zz_callSi C (As := [.int v2, .int v3]) (rest := []) (zc_X2_slotOf _ _ _) (va_cwS 2 hts gX7_come_X2_slotOf rfl rfl rfl zd_X2_slotOf.2 ⟨Nat.le_of_ble_eq_true rfl, Nat.le_of_ble_eq_true rfl⟩) hP hS rfl hl rfl (Nat.le_of_ble_eq_true rfl) dX7_come_27 ⟨Nat.zero_le _, Nat.zero_le _⟩ (fun H locs hP hS => ?_)
      refine lv_topi (fun w1 e1 => ?_)
      replace hf := zz_vi hf e1
      refine lv_istore (lv' := [(4, .int w1), (0, .ref (q 2)), (1, .int v1), (2, .int v2), (3, .int v3)]) hx hb dX7_come_30 hl (by decide) rfl (fun ls hl => ?_)
      refine lv_aload_n hx hb dX7_come_32 rfl (lv_at hl 1 rfl) ?_
      refine zz_getf C zi_X7_come_X7 hP 2 rfl rfl 1 (nm := "loads") (ds := "LThirteenthDay$Table;") (fin := true) rfl (by decide) zk_X7_come_20 rfl dX7_come_33 ?_
      refine lv_iload hx hb dX7_come_36 (lv_at hl 0 rfl) ?_
      refine lv_iconst (v := 0) hx hb dX7_come_38 (by decide) ?_
      refine zz_callVi C (As := [.int w1, .int 0]) (rest := []) (zc_X5_get 5 (by decide) _ _ _) (cwV 2 hts gX7_come_X5_get rfl rfl rfl zd_X5_get ⟨Nat.le_of_ble_eq_true rfl, Nat.le_of_ble_eq_true rfl⟩) hP hS (9 + 5) (zz_c_tab (by decide)) rfl rfl hl rfl (Nat.le_of_ble_eq_true rfl) dX7_come_39 ⟨Nat.zero_le _, Nat.zero_le _⟩ (fun H locs hP hS => ?_)
      refine lv_iconst (v := 1) hx hb dX7_come_42 (by decide) ?_
      refine lv_icmp_ne (tgt := 82) hx hb dX7_come_43 (by decide) (fun h => ?_) (fun h => ?_)
      · rw [if_neg h] at hf
        refine lv_iinc (v := (v3 + 1)) (lv' := [(3, .int (v3 + 1)), (4, .int w1), (0, .ref (q 2)), (1, .int v1), (2, .int v2)]) hx hb dX7_come_82 hl (k := 4) rfl (congrArg (fun z => v3 + z) (by decide)) (by decide) rfl (fun ls hl => ?_)
        refine lv_goto (tgt := 12) hx hb dX7_come_85 (by decide) ?_
        exact ih _ _ _ _ _ _ _ _ hf hP hS (lv_sub hl [2, 3, 4, 0] rfl)
      · rw [if_pos h] at hf
        refine lv_aload_n hx hb dX7_come_46 rfl (lv_at hl 1 rfl) ?_
        refine zz_getf C zi_X7_come_X7 hP 2 rfl rfl 1 (nm := "loads") (ds := "LThirteenthDay$Table;") (fin := true) rfl (by decide) zk_X7_come_20 rfl dX7_come_47 ?_
        refine lv_iload hx hb dX7_come_50 (lv_at hl 0 rfl) ?_
        refine lv_iconst (v := 2) hx hb dX7_come_52 (by decide) ?_
        refine zz_callVi C (As := [.int w1, .int 2]) (rest := []) (zc_X5_get 5 (by decide) _ _ _) (cwV 2 hts gX7_come_X5_get rfl rfl rfl zd_X5_get ⟨Nat.le_of_ble_eq_true rfl, Nat.le_of_ble_eq_true rfl⟩) hP hS (9 + 5) (zz_c_tab (by decide)) rfl rfl hl rfl (Nat.le_of_ble_eq_true rfl) dX7_come_53 ⟨Nat.zero_le _, Nat.zero_le _⟩ (fun H locs hP hS => ?_)
        refine lv_iload_n hx hb dX7_come_56 rfl (lv_at hl 2 rfl) ?_
        refine lv_icmp_gt (tgt := 82) hx hb dX7_come_57 (by decide) (fun h => ?_) (fun h => ?_)
        · rw [if_pos h] at hf
          refine lv_iinc (v := (v3 + 1)) (lv' := [(3, .int (v3 + 1)), (4, .int w1), (0, .ref (q 2)), (1, .int v1), (2, .int v2)]) hx hb dX7_come_82 hl (k := 4) rfl (congrArg (fun z => v3 + z) (by decide)) (by decide) rfl (fun ls hl => ?_)
          refine lv_goto (tgt := 12) hx hb dX7_come_85 (by decide) ?_
          exact ih _ _ _ _ _ _ _ _ hf hP hS (lv_sub hl [2, 3, 4, 0] rfl)
        · rw [if_neg h] at hf
          refine lv_aload_n hx hb dX7_come_60 rfl (lv_at hl 1 rfl) ?_
          refine zz_getf C zi_X7_come_X7 hP 2 rfl rfl 1 (nm := "loads") (ds := "LThirteenthDay$Table;") (fin := true) rfl (by decide) zk_X7_come_20 rfl dX7_come_61 ?_
          refine lv_iload hx hb dX7_come_64 (lv_at hl 0 rfl) ?_
          refine lv_iconst (v := 0) hx hb dX7_come_66 (by decide) ?_
          refine lv_iconst (v := 2) hx hb dX7_come_67 (by decide) ?_
          obtain ⟨st2, e3, hf⟩ := zz_vo hf
          refine zz_callVv C (As := [.int w1, .int 0, .int 2]) (rest := []) (zz_Mv_e e3 (zc_X5_set 5 (by decide) _ _ _ _)) (cwV 3 hts gX7_come_X5_set rfl rfl rfl zd_X5_set ⟨Nat.le_of_ble_eq_true rfl, Nat.le_of_ble_eq_true rfl⟩) hP hS (9 + 5) (zz_c_tab (by decide)) rfl rfl hl rfl (Nat.le_of_ble_eq_true rfl) dX7_come_68 ⟨Nat.zero_le _, Nat.zero_le _⟩ (fun H locs hP hS => ?_)
          refine lv_aload_n hx hb dX7_come_71 rfl (lv_at hl 1 rfl) ?_
          refine zz_getf C zi_X7_come_X7 hP 2 rfl rfl 0 (nm := "units") (ds := "LThirteenthDay$Table;") (fin := true) rfl (by decide) zk_X7_come_16 rfl dX7_come_72 ?_
          refine lv_iload_n hx hb dX7_come_75 rfl (lv_at hl 3 rfl) ?_
          refine lv_bipush (v := 9) hx hb dX7_come_76 (by decide) ?_
          refine lv_iconst (v := 1) hx hb dX7_come_78 (by decide) ?_
          obtain ⟨st4, e5, hf⟩ := zz_vo hf
          refine zz_callVv C (As := [.int v2, .int 9, .int 1]) (rest := []) (zz_Mv_e e5 (zc_X5_add 4 (by decide) _ _ _ _)) (cwV 3 hts gX7_come_X5_add rfl rfl rfl zd_X5_add ⟨Nat.le_of_ble_eq_true rfl, Nat.le_of_ble_eq_true rfl⟩) hP hS (9 + 4) (zz_c_tab (by decide)) rfl rfl hl rfl (Nat.le_of_ble_eq_true rfl) dX7_come_79 ⟨Nat.zero_le _, Nat.zero_le _⟩ (fun H locs hP hS => ?_)
          refine lv_iinc (v := (v3 + 1)) (lv' := [(3, .int (v3 + 1)), (4, .int w1), (0, .ref (q 2)), (1, .int v1), (2, .int v2)]) hx hb dX7_come_82 hl (k := 4) rfl (congrArg (fun z => v3 + z) (by decide)) (by decide) rfl (fun ls hl => ?_)
          refine lv_goto (tgt := 12) hx hb dX7_come_85 (by decide) ?_
          exact ih _ _ _ _ _ _ _ _ hf hP hS (lv_sub hl [2, 3, 4, 0] rfl)
def zX7_come_2 : Nat → Int32 → Int32 → zz_T → Option zz_T
  | 0, _, _, _ => none
  | n + 1, v1, v2, st =>
    if (st.2 4) ≤ v2 then
      some st
    else
      zX7_come_12 (fun v1' v2' st' => zX7_come_2 n v1' v2' st') zz_N v1 v2 0 st
set_option maxHeartbeats 4000000 in
set_option maxRecDepth 100000 in
theorem zt_X7_come_2 {l : Launch} {A : Nat → Prop} {D : va_G} {cI : ClassId} {q : Nat → Nat} {p : Program} {e : Env} {s : State} {m : MethodId} {args : Array Value} {below : List Frame} {meth : Method} {c : Code} (C : zz_C A D cI q p s m args meth c cX7_come 5 wsX7_come yX7_come.cls) (hr : meth.sig.returnType = none) : ∀ (n : Nat) (v1 : Int32) (v2 : Int32) (st : zz_T) (H : Heap) (locs : List Loc) (ls : Array Slot) (r : zz_T), zX7_come_2 n v1 v2 st = some r → va_P D vwCl (zz_c q cI st) H → va_S A s.heap H locs → lv_has ls 5 [(0, .ref (q 2)), (1, .int v1), (2, .int v2)] → W p l e zr_X7_come s m args below meth c H locs 0 0 (zz_Qv A D cI q r below args s) (F0 m 2 ls []) := by
  obtain ⟨hx, hb, hml, hown, hts⟩ := id C.1
  intro n
  induction n with
  | zero => intro v1 v2 st H locs ls r hf; cases hf
  | succ n ih =>
    intro v1 v2 st H locs ls r hf hP hS hl
    rw [zX7_come_2] at hf
    refine lv_iload_n hx hb dX7_come_2 rfl (lv_at hl 2 rfl) ?_
    refine lv_aload_n hx hb dX7_come_3 rfl (lv_at hl 0 rfl) ?_
    refine zz_getf C zi_X7_come_X7 hP 2 rfl rfl 2 (nm := "unitCount") (ds := "I") (fin := false) rfl (by decide) zk_X7_come_23 rfl dX7_come_4 ?_
    refine lv_icmp_ge (tgt := 94) hx hb dX7_come_7 (by decide) (fun h => ?_) (fun h => ?_)
    · rw [if_pos h] at hf
      rw [← (Option.some.inj hf)]
      exact zz_retv C hr hP hS dX7_come_94
    · rw [if_neg h] at hf
      refine lv_iconst (v := 0) hx hb dX7_come_10 (by decide) ?_
      refine lv_istore_n (lv' := [(3, .int 0), (0, .ref (q 2)), (1, .int v1), (2, .int v2)]) hx hb dX7_come_11 rfl hl (by decide) rfl (fun ls hl => ?_)
      exact zt_X7_come_12 C hr _ ih zz_N _ _ _ _ _ _ _ _ hf hP hS (lv_sub hl [1, 2, 3, 0] rfl)
def zX7_come (v1 : Int32) (st : zz_T) : Option zz_T :=
  zX7_come_2 zz_N v1 0 st
set_option maxHeartbeats 4000000 in
set_option maxRecDepth 100000 in
theorem zc_X7_come {l : Launch} {A : Nat → Prop} {D : va_G} {cI : ClassId} {q : Nat → Nat} (v1 : Int32) (st : zz_T) (r : zz_T) (hf : zX7_come v1 st = some r) : zz_Mv l A D cI q yX7_come wsX7_come zr_X7_come [.ref (q 2), .int v1] st r := by
  refine zz_of (cc := cX7_come) (nL := 5) (ret := none) (by decide) rfl (Nat.le_of_ble_eq_true rfl) ?_
  intro p e s m args below meth c ls C hr hP hS hl
  obtain ⟨hx, hb, hml, hown, hts⟩ := id C.1
  have hl : lv_has ls 5 [(0, .ref (q 2)), (1, .int v1)] := hl
  rw [zX7_come] at hf
  skip
  refine lv_iconst (v := 0) hx hb dX7_come_0 (by decide) ?_
  refine lv_istore_n (lv' := [(2, .int 0), (0, .ref (q 2)), (1, .int v1)]) hx hb dX7_come_1 rfl hl (by decide) rfl (fun ls hl => ?_)
  exact zt_X7_come_2 C hr zz_N _ _ _ _ _ _ _ hf hP hS (lv_sub hl [1, 2, 0] rfl)
/-! X7_leave TW -/
theorem zd_X7_leave : yX7_leave.cls = RX7 ∧ yX7_leave.cls ≠ "java/lang/invoke/MethodHandle" ∧ yX7_leave.cls ≠ "java/lang/invoke/VarHandle" ∧ (parseMethodDescriptor yX7_leave.desc).map (fun d => d.parameters.length) = some 3 := by decide +kernel
abbrev zr_X7_leave : Room := { frames := 1, cells := 0, slots := 0, locals := 24 }
theorem zk_X7_leave_20 : Cond.fieldLink yX7_leave.cls 20 RX7 "loads" "LThirteenthDay$Table;" ∈ wsX7_leave := by decide +kernel
theorem zk_X7_leave_16 : Cond.fieldLink yX7_leave.cls 16 RX7 "units" "LThirteenthDay$Table;" ∈ wsX7_leave := by decide +kernel
theorem zi_X7_leave_X7 : ∀ w ∈ u_ws RX7 TX7 3, w ∈ wsX7_leave := by decide +kernel
def zX7_leave (v1 : Int32) (v2 : Int32) (v3 : Int32) (st : zz_T) : zz_T :=
  zz_v (zz_set 5 v2 1 v3 st) fun st1 =>
  zz_v (zz_add 4 v1 7 1 st1) fun st3 =>
  st3
set_option maxHeartbeats 4000000 in
set_option maxRecDepth 100000 in
theorem zc_X7_leave {l : Launch} {A : Nat → Prop} {D : va_G} {cI : ClassId} {q : Nat → Nat} (v1 : Int32) (v2 : Int32) (v3 : Int32) (st : zz_T) : zz_Mv l A D cI q yX7_leave wsX7_leave zr_X7_leave [.ref (q 2), .int v1, .int v2, .int v3] st (zX7_leave v1 v2 v3 st) := by
  refine zz_of (cc := cX7_leave) (nL := 4) (ret := none) (by decide) rfl (Nat.le_of_ble_eq_true rfl) ?_
  intro p e s m args below meth c ls C hr hP hS hl
  obtain ⟨hx, hb, hml, hown, hts⟩ := id C.1
  have hl : lv_has ls 4 [(0, .ref (q 2)), (1, .int v1), (2, .int v2), (3, .int v3)] := hl
  obtain ⟨r, hf⟩ : ∃ r, zX7_leave v1 v2 v3 st = r := ⟨_, rfl⟩
  rw [hf]
  rw [zX7_leave] at hf
  skip
  refine lv_aload_n hx hb dX7_leave_0 rfl (lv_at hl 0 rfl) ?_
  refine zz_getf C zi_X7_leave_X7 hP 2 rfl rfl 1 (nm := "loads") (ds := "LThirteenthDay$Table;") (fin := true) rfl (by decide) zk_X7_leave_20 rfl dX7_leave_1 ?_
  refine lv_iload_n hx hb dX7_leave_4 rfl (lv_at hl 2 rfl) ?_
  refine lv_iconst (v := 1) hx hb dX7_leave_5 (by decide) ?_
  refine lv_iload_n hx hb dX7_leave_6 rfl (lv_at hl 3 rfl) ?_
  obtain ⟨st1, e2, hf⟩ := zz_vo hf
  refine zz_callVv C (As := [.int v2, .int 1, .int v3]) (rest := []) (zz_Mv_e e2 (zc_X5_set 5 (by decide) _ _ _ _)) (cwV 3 hts gX7_leave_X5_set rfl rfl rfl zd_X5_set ⟨Nat.le_of_ble_eq_true rfl, Nat.le_of_ble_eq_true rfl⟩) hP hS (9 + 5) (zz_c_tab (by decide)) rfl rfl hl rfl (Nat.le_of_ble_eq_true rfl) dX7_leave_7 ⟨Nat.zero_le _, Nat.zero_le _⟩ (fun H locs hP hS => ?_)
  refine lv_aload_n hx hb dX7_leave_10 rfl (lv_at hl 0 rfl) ?_
  refine zz_getf C zi_X7_leave_X7 hP 2 rfl rfl 0 (nm := "units") (ds := "LThirteenthDay$Table;") (fin := true) rfl (by decide) zk_X7_leave_16 rfl dX7_leave_11 ?_
  refine lv_iload_n hx hb dX7_leave_14 rfl (lv_at hl 1 rfl) ?_
  refine lv_bipush (v := 7) hx hb dX7_leave_15 (by decide) ?_
  refine lv_iconst (v := 1) hx hb dX7_leave_17 (by decide) ?_
  obtain ⟨st3, e4, hf⟩ := zz_vo hf
  refine zz_callVv C (As := [.int v1, .int 7, .int 1]) (rest := []) (zz_Mv_e e4 (zc_X5_add 4 (by decide) _ _ _ _)) (cwV 3 hts gX7_leave_X5_add rfl rfl rfl zd_X5_add ⟨Nat.le_of_ble_eq_true rfl, Nat.le_of_ble_eq_true rfl⟩) hP hS (9 + 4) (zz_c_tab (by decide)) rfl rfl hl rfl (Nat.le_of_ble_eq_true rfl) dX7_leave_18 ⟨Nat.zero_le _, Nat.zero_le _⟩ (fun H locs hP hS => ?_)
  rw [← hf]
  exact zz_retv C hr hP hS dX7_leave_21
/-! X7_march TW -/
theorem zd_X7_march : yX7_march.cls = RX7 ∧ yX7_march.cls ≠ "java/lang/invoke/MethodHandle" ∧ yX7_march.cls ≠ "java/lang/invoke/VarHandle" ∧ (parseMethodDescriptor yX7_march.desc).map (fun d => d.parameters.length) = some 3 := by decide +kernel
abbrev zr_X7_march : Room := { frames := 1, cells := 0, slots := 0, locals := 24 }
theorem zk_X7_march_20 : Cond.fieldLink yX7_march.cls 20 RX7 "loads" "LThirteenthDay$Table;" ∈ wsX7_march := by decide +kernel
theorem zk_X7_march_16 : Cond.fieldLink yX7_march.cls 16 RX7 "units" "LThirteenthDay$Table;" ∈ wsX7_march := by decide +kernel
theorem zi_X7_march_X7 : ∀ w ∈ u_ws RX7 TX7 3, w ∈ wsX7_march := by decide +kernel
def zX7_march (v1 : Int32) (v2 : Int32) (v3 : Int32) (st : zz_T) : zz_T :=
  zz_v (zz_set 5 v2 0 1 st) fun st1 =>
  zz_v (zz_set 5 v2 2 v3 st1) fun st3 =>
  zz_v (zz_add 4 v1 8 1 st3) fun st5 =>
  st5
set_option maxHeartbeats 4000000 in
set_option maxRecDepth 100000 in
theorem zc_X7_march {l : Launch} {A : Nat → Prop} {D : va_G} {cI : ClassId} {q : Nat → Nat} (v1 : Int32) (v2 : Int32) (v3 : Int32) (st : zz_T) : zz_Mv l A D cI q yX7_march wsX7_march zr_X7_march [.ref (q 2), .int v1, .int v2, .int v3] st (zX7_march v1 v2 v3 st) := by
  refine zz_of (cc := cX7_march) (nL := 4) (ret := none) (by decide) rfl (Nat.le_of_ble_eq_true rfl) ?_
  intro p e s m args below meth c ls C hr hP hS hl
  obtain ⟨hx, hb, hml, hown, hts⟩ := id C.1
  have hl : lv_has ls 4 [(0, .ref (q 2)), (1, .int v1), (2, .int v2), (3, .int v3)] := hl
  obtain ⟨r, hf⟩ : ∃ r, zX7_march v1 v2 v3 st = r := ⟨_, rfl⟩
  rw [hf]
  rw [zX7_march] at hf
  skip
  refine lv_aload_n hx hb dX7_march_0 rfl (lv_at hl 0 rfl) ?_
  refine zz_getf C zi_X7_march_X7 hP 2 rfl rfl 1 (nm := "loads") (ds := "LThirteenthDay$Table;") (fin := true) rfl (by decide) zk_X7_march_20 rfl dX7_march_1 ?_
  refine lv_iload_n hx hb dX7_march_4 rfl (lv_at hl 2 rfl) ?_
  refine lv_iconst (v := 0) hx hb dX7_march_5 (by decide) ?_
  refine lv_iconst (v := 1) hx hb dX7_march_6 (by decide) ?_
  obtain ⟨st1, e2, hf⟩ := zz_vo hf
  refine zz_callVv C (As := [.int v2, .int 0, .int 1]) (rest := []) (zz_Mv_e e2 (zc_X5_set 5 (by decide) _ _ _ _)) (cwV 3 hts gX7_march_X5_set rfl rfl rfl zd_X5_set ⟨Nat.le_of_ble_eq_true rfl, Nat.le_of_ble_eq_true rfl⟩) hP hS (9 + 5) (zz_c_tab (by decide)) rfl rfl hl rfl (Nat.le_of_ble_eq_true rfl) dX7_march_7 ⟨Nat.zero_le _, Nat.zero_le _⟩ (fun H locs hP hS => ?_)
  refine lv_aload_n hx hb dX7_march_10 rfl (lv_at hl 0 rfl) ?_
  refine zz_getf C zi_X7_march_X7 hP 2 rfl rfl 1 (nm := "loads") (ds := "LThirteenthDay$Table;") (fin := true) rfl (by decide) zk_X7_march_20 rfl dX7_march_11 ?_
  refine lv_iload_n hx hb dX7_march_14 rfl (lv_at hl 2 rfl) ?_
  refine lv_iconst (v := 2) hx hb dX7_march_15 (by decide) ?_
  refine lv_iload_n hx hb dX7_march_16 rfl (lv_at hl 3 rfl) ?_
  obtain ⟨st3, e4, hf⟩ := zz_vo hf
  refine zz_callVv C (As := [.int v2, .int 2, .int v3]) (rest := []) (zz_Mv_e e4 (zc_X5_set 5 (by decide) _ _ _ _)) (cwV 3 hts gX7_march_X5_set rfl rfl rfl zd_X5_set ⟨Nat.le_of_ble_eq_true rfl, Nat.le_of_ble_eq_true rfl⟩) hP hS (9 + 5) (zz_c_tab (by decide)) rfl rfl hl rfl (Nat.le_of_ble_eq_true rfl) dX7_march_17 ⟨Nat.zero_le _, Nat.zero_le _⟩ (fun H locs hP hS => ?_)
  refine lv_aload_n hx hb dX7_march_20 rfl (lv_at hl 0 rfl) ?_
  refine zz_getf C zi_X7_march_X7 hP 2 rfl rfl 0 (nm := "units") (ds := "LThirteenthDay$Table;") (fin := true) rfl (by decide) zk_X7_march_16 rfl dX7_march_21 ?_
  refine lv_iload_n hx hb dX7_march_24 rfl (lv_at hl 1 rfl) ?_
  refine lv_bipush (v := 8) hx hb dX7_march_25 (by decide) ?_
  refine lv_iconst (v := 1) hx hb dX7_march_27 (by decide) ?_
  obtain ⟨st5, e6, hf⟩ := zz_vo hf
  refine zz_callVv C (As := [.int v1, .int 8, .int 1]) (rest := []) (zz_Mv_e e6 (zc_X5_add 4 (by decide) _ _ _ _)) (cwV 3 hts gX7_march_X5_add rfl rfl rfl zd_X5_add ⟨Nat.le_of_ble_eq_true rfl, Nat.le_of_ble_eq_true rfl⟩) hP hS (9 + 4) (zz_c_tab (by decide)) rfl rfl hl rfl (Nat.le_of_ble_eq_true rfl) dX7_march_28 ⟨Nat.zero_le _, Nat.zero_le _⟩ (fun H locs hP hS => ?_)
  rw [← hf]
  exact zz_retv C hr hP hS dX7_march_31
/-! X7_nextOf PR -/
theorem zd_X7_nextOf : yX7_nextOf.cls = RX7 ∧ yX7_nextOf.cls ≠ "java/lang/invoke/MethodHandle" ∧ yX7_nextOf.cls ≠ "java/lang/invoke/VarHandle" ∧ (parseMethodDescriptor yX7_nextOf.desc).map (fun d => d.parameters.length) = some 1 := by decide +kernel
abbrev zr_X7_nextOf : Room := { frames := 1, cells := 0, slots := 0, locals := 24 }
theorem zk_X7_nextOf_23 : Cond.fieldLink yX7_nextOf.cls 23 RX7 "unitCount" "I" ∈ wsX7_nextOf := by decide +kernel
theorem zk_X7_nextOf_16 : Cond.fieldLink yX7_nextOf.cls 16 RX7 "units" "LThirteenthDay$Table;" ∈ wsX7_nextOf := by decide +kernel
theorem zi_X7_nextOf_X7 : ∀ w ∈ u_ws RX7 TX7 3, w ∈ wsX7_nextOf := by decide +kernel
def zX7_nextOf_65 (k4 : Int32 → Int32 → Int32 → zz_T → Option Int32) (v1 : Int32) (v2 : Int32) (v3 : Int32) (k0 : Bool) (st : zz_T) : Option Int32 :=
  if k0 = true then
    if v2 = (-1) then
      k4 v1 v3 (v3 + 1) st
    else
      if (zz_g 4 v2 5 st) ≤ (zz_g 4 v3 5 st) then
        k4 v1 v2 (v3 + 1) st
      else
        k4 v1 v3 (v3 + 1) st
  else
    k4 v1 v2 (v3 + 1) st
set_option maxHeartbeats 4000000 in
set_option maxRecDepth 100000 in
theorem zt_X7_nextOf_65 {l : Launch} {A : Nat → Prop} {D : va_G} {cI : ClassId} {q : Nat → Nat} {p : Program} {e : Env} {s : State} {m : MethodId} {args : Array Value} {below : List Frame} {meth : Method} {c : Code} (C : zz_C A D cI q p s m args meth c cX7_nextOf 5 wsX7_nextOf yX7_nextOf.cls) (hr : meth.sig.returnType = some .int) (k4 : Int32 → Int32 → Int32 → zz_T → Option Int32) (hk4 : ∀ (v1 : Int32) (v2 : Int32) (v3 : Int32) (st : zz_T) (H : Heap) (locs : List Loc) (ls : Array Slot) (r : Int32), k4 v1 v2 v3 st = some r → va_P D vwCl (zz_c q cI st) H → va_S A s.heap H locs → lv_has ls 5 [(0, .ref (q 2)), (1, .int v1), (2, .int v2), (3, .int v3)] → W p l e zr_X7_nextOf s m args below meth c H locs 0 0 (zz_Qi A D cI q r st below args s) (F0 m 4 ls [])) : ∀ (v1 : Int32) (v2 : Int32) (v3 : Int32) (k0 : Bool) (st : zz_T) (H : Heap) (locs : List Loc) (ls : Array Slot) (r : Int32), zX7_nextOf_65 k4 v1 v2 v3 k0 st = some r → va_P D vwCl (zz_c q cI st) H → va_S A s.heap H locs → lv_has ls 5 [(0, .ref (q 2)), (1, .int v1), (2, .int v2), (3, .int v3)] → W p l e zr_X7_nextOf s m args below meth c H locs 0 0 (zz_Qi A D cI q r st below args s) (F0 m 65 ls [.int (zz_b k0)]) := by
  obtain ⟨hx, hb, hml, hown, hts⟩ := id C.1
  intro v1 v2 v3 k0 st H locs ls r hf hP hS hl
  rw [zX7_nextOf_65] at hf
  refine lv_istore (lv' := [(4, .int (zz_b k0)), (0, .ref (q 2)), (1, .int v1), (2, .int v2), (3, .int v3)]) hx hb dX7_nextOf_65 hl (by decide) rfl (fun ls hl => ?_)
  refine lv_iload hx hb dX7_nextOf_67 (lv_at hl 0 rfl) ?_
  refine lv_if_eq (tgt := 100) hx hb dX7_nextOf_69 (by decide) (fun h => ?_) (fun h => ?_)
  · rw [zz_if0 (zz_b0 h)] at hf
    refine lv_iinc (v := (v3 + 1)) (lv' := [(3, .int (v3 + 1)), (4, .int (zz_b k0)), (0, .ref (q 2)), (1, .int v1), (2, .int v2)]) hx hb dX7_nextOf_100 hl (k := 4) rfl (congrArg (fun z => v3 + z) (by decide)) (by decide) rfl (fun ls hl => ?_)
    refine lv_goto (tgt := 4) hx hb dX7_nextOf_103 (by decide) ?_
    exact hk4 _ _ _ _ _ _ _ _ hf hP hS (lv_sub hl [2, 3, 4, 0] rfl)
  · rw [zz_if1 (zz_b1 h)] at hf
    refine lv_iload_n hx hb dX7_nextOf_72 rfl (lv_at hl 3 rfl) ?_
    refine lv_iconst (v := (-1)) hx hb dX7_nextOf_73 (by decide) ?_
    refine lv_icmp_eq (tgt := 98) hx hb dX7_nextOf_74 (by decide) (fun h => ?_) (fun h => ?_)
    · rw [if_pos h] at hf
      refine lv_iload_n hx hb dX7_nextOf_98 rfl (lv_at hl 4 rfl) ?_
      refine lv_istore_n (lv' := [(2, .int v3), (4, .int (zz_b k0)), (0, .ref (q 2)), (1, .int v1), (3, .int v3)]) hx hb dX7_nextOf_99 rfl hl (by decide) rfl (fun ls hl => ?_)
      refine lv_iinc (v := (v3 + 1)) (lv' := [(3, .int (v3 + 1)), (2, .int v3), (4, .int (zz_b k0)), (0, .ref (q 2)), (1, .int v1)]) hx hb dX7_nextOf_100 hl (k := 4) rfl (congrArg (fun z => v3 + z) (by decide)) (by decide) rfl (fun ls hl => ?_)
      refine lv_goto (tgt := 4) hx hb dX7_nextOf_103 (by decide) ?_
      exact hk4 _ _ _ _ _ _ _ _ hf hP hS (lv_sub hl [3, 4, 1, 0] rfl)
    · rw [if_neg h] at hf
      refine lv_aload_n hx hb dX7_nextOf_77 rfl (lv_at hl 1 rfl) ?_
      refine zz_getf C zi_X7_nextOf_X7 hP 2 rfl rfl 0 (nm := "units") (ds := "LThirteenthDay$Table;") (fin := true) rfl (by decide) zk_X7_nextOf_16 rfl dX7_nextOf_78 ?_
      refine lv_iload_n hx hb dX7_nextOf_81 rfl (lv_at hl 4 rfl) ?_
      refine lv_iconst (v := 5) hx hb dX7_nextOf_82 (by decide) ?_
      refine zz_callVi C (As := [.int v3, .int 5]) (rest := []) (zc_X5_get 4 (by decide) _ _ _) (cwV 2 hts gX7_nextOf_X5_get rfl rfl rfl zd_X5_get ⟨Nat.le_of_ble_eq_true rfl, Nat.le_of_ble_eq_true rfl⟩) hP hS (9 + 4) (zz_c_tab (by decide)) rfl rfl hl rfl (Nat.le_of_ble_eq_true rfl) dX7_nextOf_83 ⟨Nat.zero_le _, Nat.zero_le _⟩ (fun H locs hP hS => ?_)
      refine lv_aload_n hx hb dX7_nextOf_86 rfl (lv_at hl 1 rfl) ?_
      refine zz_getf C zi_X7_nextOf_X7 hP 2 rfl rfl 0 (nm := "units") (ds := "LThirteenthDay$Table;") (fin := true) rfl (by decide) zk_X7_nextOf_16 rfl dX7_nextOf_87 ?_
      refine lv_iload_n hx hb dX7_nextOf_90 rfl (lv_at hl 3 rfl) ?_
      refine lv_iconst (v := 5) hx hb dX7_nextOf_91 (by decide) ?_
      refine zz_callVi C (As := [.int v2, .int 5]) (rest := [.int (zz_g 4 v3 5 st)]) (zc_X5_get 4 (by decide) _ _ _) (cwV 2 hts gX7_nextOf_X5_get rfl rfl rfl zd_X5_get ⟨Nat.le_of_ble_eq_true rfl, Nat.le_of_ble_eq_true rfl⟩) hP hS (9 + 4) (zz_c_tab (by decide)) rfl rfl hl rfl (Nat.le_of_ble_eq_true rfl) dX7_nextOf_92 ⟨Nat.zero_le _, Nat.zero_le _⟩ (fun H locs hP hS => ?_)
      refine lv_icmp_ge (tgt := 100) hx hb dX7_nextOf_95 (by decide) (fun h => ?_) (fun h => ?_)
      · rw [if_pos h] at hf
        refine lv_iinc (v := (v3 + 1)) (lv' := [(3, .int (v3 + 1)), (4, .int (zz_b k0)), (0, .ref (q 2)), (1, .int v1), (2, .int v2)]) hx hb dX7_nextOf_100 hl (k := 4) rfl (congrArg (fun z => v3 + z) (by decide)) (by decide) rfl (fun ls hl => ?_)
        refine lv_goto (tgt := 4) hx hb dX7_nextOf_103 (by decide) ?_
        exact hk4 _ _ _ _ _ _ _ _ hf hP hS (lv_sub hl [2, 3, 4, 0] rfl)
      · rw [if_neg h] at hf
        refine lv_iload_n hx hb dX7_nextOf_98 rfl (lv_at hl 4 rfl) ?_
        refine lv_istore_n (lv' := [(2, .int v3), (4, .int (zz_b k0)), (0, .ref (q 2)), (1, .int v1), (3, .int v3)]) hx hb dX7_nextOf_99 rfl hl (by decide) rfl (fun ls hl => ?_)
        refine lv_iinc (v := (v3 + 1)) (lv' := [(3, .int (v3 + 1)), (2, .int v3), (4, .int (zz_b k0)), (0, .ref (q 2)), (1, .int v1)]) hx hb dX7_nextOf_100 hl (k := 4) rfl (congrArg (fun z => v3 + z) (by decide)) (by decide) rfl (fun ls hl => ?_)
        refine lv_goto (tgt := 4) hx hb dX7_nextOf_103 (by decide) ?_
        exact hk4 _ _ _ _ _ _ _ _ hf hP hS (lv_sub hl [3, 4, 1, 0] rfl)
def zX7_nextOf_4 : Nat → Int32 → Int32 → Int32 → zz_T → Option Int32
  | 0, _, _, _, _ => none
  | n + 1, v1, v2, v3, st =>
    if (st.2 4) ≤ v3 then
      some v2
    else
      if (zz_g 4 v3 2 st) = v1 then
        if (zz_g 4 v3 4 st) = 2 then
          if (zz_g 4 v3 1 st) ≤ (zz_g 4 v3 6 st) then
            zX7_nextOf_65 (fun v1' v2' v3' st' => zX7_nextOf_4 n v1' v2' v3' st') v1 v2 v3 false st
          else
            zX7_nextOf_65 (fun v1' v2' v3' st' => zX7_nextOf_4 n v1' v2' v3' st') v1 v2 v3 true st
        else
          zX7_nextOf_65 (fun v1' v2' v3' st' => zX7_nextOf_4 n v1' v2' v3' st') v1 v2 v3 false st
      else
        zX7_nextOf_65 (fun v1' v2' v3' st' => zX7_nextOf_4 n v1' v2' v3' st') v1 v2 v3 false st
set_option maxHeartbeats 4000000 in
set_option maxRecDepth 100000 in
theorem zt_X7_nextOf_4 {l : Launch} {A : Nat → Prop} {D : va_G} {cI : ClassId} {q : Nat → Nat} {p : Program} {e : Env} {s : State} {m : MethodId} {args : Array Value} {below : List Frame} {meth : Method} {c : Code} (C : zz_C A D cI q p s m args meth c cX7_nextOf 5 wsX7_nextOf yX7_nextOf.cls) (hr : meth.sig.returnType = some .int) : ∀ (n : Nat) (v1 : Int32) (v2 : Int32) (v3 : Int32) (st : zz_T) (H : Heap) (locs : List Loc) (ls : Array Slot) (r : Int32), zX7_nextOf_4 n v1 v2 v3 st = some r → va_P D vwCl (zz_c q cI st) H → va_S A s.heap H locs → lv_has ls 5 [(0, .ref (q 2)), (1, .int v1), (2, .int v2), (3, .int v3)] → W p l e zr_X7_nextOf s m args below meth c H locs 0 0 (zz_Qi A D cI q r st below args s) (F0 m 4 ls []) := by
  obtain ⟨hx, hb, hml, hown, hts⟩ := id C.1
  intro n
  induction n with
  | zero => intro v1 v2 v3 st H locs ls r hf; cases hf
  | succ n ih =>
    intro v1 v2 v3 st H locs ls r hf hP hS hl
    rw [zX7_nextOf_4] at hf
    refine lv_iload_n hx hb dX7_nextOf_4 rfl (lv_at hl 3 rfl) ?_
    refine lv_aload_n hx hb dX7_nextOf_5 rfl (lv_at hl 0 rfl) ?_
    refine zz_getf C zi_X7_nextOf_X7 hP 2 rfl rfl 2 (nm := "unitCount") (ds := "I") (fin := false) rfl (by decide) zk_X7_nextOf_23 rfl dX7_nextOf_6 ?_
    refine lv_icmp_ge (tgt := 106) hx hb dX7_nextOf_9 (by decide) (fun h => ?_) (fun h => ?_)
    · rw [if_pos h] at hf
      refine lv_iload_n hx hb dX7_nextOf_106 rfl (lv_at hl 2 rfl) ?_
      rw [← (Option.some.inj hf)]
      exact zz_reti C hr hP hS dX7_nextOf_107
    · rw [if_neg h] at hf
      refine lv_aload_n hx hb dX7_nextOf_12 rfl (lv_at hl 0 rfl) ?_
      refine zz_getf C zi_X7_nextOf_X7 hP 2 rfl rfl 0 (nm := "units") (ds := "LThirteenthDay$Table;") (fin := true) rfl (by decide) zk_X7_nextOf_16 rfl dX7_nextOf_13 ?_
      refine lv_iload_n hx hb dX7_nextOf_16 rfl (lv_at hl 3 rfl) ?_
      refine lv_iconst (v := 2) hx hb dX7_nextOf_17 (by decide) ?_
      refine zz_callVi C (As := [.int v3, .int 2]) (rest := []) (zc_X5_get 4 (by decide) _ _ _) (cwV 2 hts gX7_nextOf_X5_get rfl rfl rfl zd_X5_get ⟨Nat.le_of_ble_eq_true rfl, Nat.le_of_ble_eq_true rfl⟩) hP hS (9 + 4) (zz_c_tab (by decide)) rfl rfl hl rfl (Nat.le_of_ble_eq_true rfl) dX7_nextOf_18 ⟨Nat.zero_le _, Nat.zero_le _⟩ (fun H locs hP hS => ?_)
      refine lv_iload_n hx hb dX7_nextOf_21 rfl (lv_at hl 1 rfl) ?_
      refine lv_icmp_ne (tgt := 64) hx hb dX7_nextOf_22 (by decide) (fun h => ?_) (fun h => ?_)
      · rw [if_neg h] at hf
        refine lv_iconst (v := 0) hx hb dX7_nextOf_64 (by decide) ?_
        exact zt_X7_nextOf_65 C hr _ ih _ _ _ _ _ _ _ _ _ hf hP hS (lv_sub hl [0, 1, 2, 3] rfl)
      · rw [if_pos h] at hf
        refine lv_aload_n hx hb dX7_nextOf_25 rfl (lv_at hl 0 rfl) ?_
        refine zz_getf C zi_X7_nextOf_X7 hP 2 rfl rfl 0 (nm := "units") (ds := "LThirteenthDay$Table;") (fin := true) rfl (by decide) zk_X7_nextOf_16 rfl dX7_nextOf_26 ?_
        refine lv_iload_n hx hb dX7_nextOf_29 rfl (lv_at hl 3 rfl) ?_
        refine lv_iconst (v := 4) hx hb dX7_nextOf_30 (by decide) ?_
        refine zz_callVi C (As := [.int v3, .int 4]) (rest := []) (zc_X5_get 4 (by decide) _ _ _) (cwV 2 hts gX7_nextOf_X5_get rfl rfl rfl zd_X5_get ⟨Nat.le_of_ble_eq_true rfl, Nat.le_of_ble_eq_true rfl⟩) hP hS (9 + 4) (zz_c_tab (by decide)) rfl rfl hl rfl (Nat.le_of_ble_eq_true rfl) dX7_nextOf_31 ⟨Nat.zero_le _, Nat.zero_le _⟩ (fun H locs hP hS => ?_)
        refine lv_iconst (v := 2) hx hb dX7_nextOf_34 (by decide) ?_
        refine lv_icmp_ne (tgt := 64) hx hb dX7_nextOf_35 (by decide) (fun h => ?_) (fun h => ?_)
        · rw [if_neg h] at hf
          refine lv_iconst (v := 0) hx hb dX7_nextOf_64 (by decide) ?_
          exact zt_X7_nextOf_65 C hr _ ih _ _ _ _ _ _ _ _ _ hf hP hS (lv_sub hl [0, 1, 2, 3] rfl)
        · rw [if_pos h] at hf
          refine lv_aload_n hx hb dX7_nextOf_38 rfl (lv_at hl 0 rfl) ?_
          refine zz_getf C zi_X7_nextOf_X7 hP 2 rfl rfl 0 (nm := "units") (ds := "LThirteenthDay$Table;") (fin := true) rfl (by decide) zk_X7_nextOf_16 rfl dX7_nextOf_39 ?_
          refine lv_iload_n hx hb dX7_nextOf_42 rfl (lv_at hl 3 rfl) ?_
          refine lv_bipush (v := 6) hx hb dX7_nextOf_43 (by decide) ?_
          refine zz_callVi C (As := [.int v3, .int 6]) (rest := []) (zc_X5_get 4 (by decide) _ _ _) (cwV 2 hts gX7_nextOf_X5_get rfl rfl rfl zd_X5_get ⟨Nat.le_of_ble_eq_true rfl, Nat.le_of_ble_eq_true rfl⟩) hP hS (9 + 4) (zz_c_tab (by decide)) rfl rfl hl rfl (Nat.le_of_ble_eq_true rfl) dX7_nextOf_45 ⟨Nat.zero_le _, Nat.zero_le _⟩ (fun H locs hP hS => ?_)
          refine lv_aload_n hx hb dX7_nextOf_48 rfl (lv_at hl 0 rfl) ?_
          refine zz_getf C zi_X7_nextOf_X7 hP 2 rfl rfl 0 (nm := "units") (ds := "LThirteenthDay$Table;") (fin := true) rfl (by decide) zk_X7_nextOf_16 rfl dX7_nextOf_49 ?_
          refine lv_iload_n hx hb dX7_nextOf_52 rfl (lv_at hl 3 rfl) ?_
          refine lv_iconst (v := 1) hx hb dX7_nextOf_53 (by decide) ?_
          refine zz_callVi C (As := [.int v3, .int 1]) (rest := [.int (zz_g 4 v3 6 st)]) (zc_X5_get 4 (by decide) _ _ _) (cwV 2 hts gX7_nextOf_X5_get rfl rfl rfl zd_X5_get ⟨Nat.le_of_ble_eq_true rfl, Nat.le_of_ble_eq_true rfl⟩) hP hS (9 + 4) (zz_c_tab (by decide)) rfl rfl hl rfl (Nat.le_of_ble_eq_true rfl) dX7_nextOf_54 ⟨Nat.zero_le _, Nat.zero_le _⟩ (fun H locs hP hS => ?_)
          refine lv_icmp_ge (tgt := 64) hx hb dX7_nextOf_57 (by decide) (fun h => ?_) (fun h => ?_)
          · rw [if_pos h] at hf
            refine lv_iconst (v := 0) hx hb dX7_nextOf_64 (by decide) ?_
            exact zt_X7_nextOf_65 C hr _ ih _ _ _ _ _ _ _ _ _ hf hP hS (lv_sub hl [0, 1, 2, 3] rfl)
          · rw [if_neg h] at hf
            refine lv_iconst (v := 1) hx hb dX7_nextOf_60 (by decide) ?_
            refine lv_goto (tgt := 65) hx hb dX7_nextOf_61 (by decide) ?_
            exact zt_X7_nextOf_65 C hr _ ih _ _ _ _ _ _ _ _ _ hf hP hS (lv_sub hl [0, 1, 2, 3] rfl)
def zX7_nextOf (v1 : Int32) (st : zz_T) : Option Int32 :=
  zX7_nextOf_4 zz_N v1 (-1) 0 st
set_option maxHeartbeats 4000000 in
set_option maxRecDepth 100000 in
theorem zc_X7_nextOf {l : Launch} {A : Nat → Prop} {D : va_G} {cI : ClassId} {q : Nat → Nat} (v1 : Int32) (st : zz_T) (r : Int32) (hf : zX7_nextOf v1 st = some r) : zz_Mi l A D cI q yX7_nextOf wsX7_nextOf zr_X7_nextOf [.ref (q 2), .int v1] st r st := by
  refine zz_of (cc := cX7_nextOf) (nL := 5) (ret := some .int) (by decide) rfl (Nat.le_of_ble_eq_true rfl) ?_
  intro p e s m args below meth c ls C hr hP hS hl
  obtain ⟨hx, hb, hml, hown, hts⟩ := id C.1
  have hl : lv_has ls 5 [(0, .ref (q 2)), (1, .int v1)] := hl
  rw [zX7_nextOf] at hf
  skip
  refine lv_iconst (v := (-1)) hx hb dX7_nextOf_0 (by decide) ?_
  refine lv_istore_n (lv' := [(2, .int (-1)), (0, .ref (q 2)), (1, .int v1)]) hx hb dX7_nextOf_1 rfl hl (by decide) rfl (fun ls hl => ?_)
  refine lv_iconst (v := 0) hx hb dX7_nextOf_2 (by decide) ?_
  refine lv_istore_n (lv' := [(3, .int 0), (2, .int (-1)), (0, .ref (q 2)), (1, .int v1)]) hx hb dX7_nextOf_3 rfl hl (by decide) rfl (fun ls hl => ?_)
  exact zt_X7_nextOf_4 C hr zz_N _ _ _ _ _ _ _ _ hf hP hS (lv_sub hl [2, 3, 1, 0] rfl)
/-! X7_set TW -/
theorem zd_X7_set : yX7_set.cls = RX7 ∧ yX7_set.cls ≠ "java/lang/invoke/MethodHandle" ∧ yX7_set.cls ≠ "java/lang/invoke/VarHandle" ∧ (parseMethodDescriptor yX7_set.desc).map (fun d => d.parameters.length) = some 3 := by decide +kernel
abbrev zr_X7_set : Room := { frames := 1, cells := 0, slots := 0, locals := 24 }
theorem zk_X7_set_16 : Cond.fieldLink yX7_set.cls 16 RX7 "units" "LThirteenthDay$Table;" ∈ wsX7_set := by decide +kernel
theorem zi_X7_set_X7 : ∀ w ∈ u_ws RX7 TX7 3, w ∈ wsX7_set := by decide +kernel
def zX7_set (v1 : Int32) (v2 : Int32) (v3 : Int32) (st : zz_T) : zz_T :=
  zz_v (zz_set 4 v1 v2 v3 st) fun st1 =>
  st1
set_option maxHeartbeats 4000000 in
set_option maxRecDepth 100000 in
theorem zc_X7_set {l : Launch} {A : Nat → Prop} {D : va_G} {cI : ClassId} {q : Nat → Nat} (v1 : Int32) (v2 : Int32) (v3 : Int32) (st : zz_T) : zz_Mv l A D cI q yX7_set wsX7_set zr_X7_set [.ref (q 2), .int v1, .int v2, .int v3] st (zX7_set v1 v2 v3 st) := by
  refine zz_of (cc := cX7_set) (nL := 4) (ret := none) (by decide) rfl (Nat.le_of_ble_eq_true rfl) ?_
  intro p e s m args below meth c ls C hr hP hS hl
  obtain ⟨hx, hb, hml, hown, hts⟩ := id C.1
  have hl : lv_has ls 4 [(0, .ref (q 2)), (1, .int v1), (2, .int v2), (3, .int v3)] := hl
  obtain ⟨r, hf⟩ : ∃ r, zX7_set v1 v2 v3 st = r := ⟨_, rfl⟩
  rw [hf]
  rw [zX7_set] at hf
  skip
  refine lv_aload_n hx hb dX7_set_0 rfl (lv_at hl 0 rfl) ?_
  refine zz_getf C zi_X7_set_X7 hP 2 rfl rfl 0 (nm := "units") (ds := "LThirteenthDay$Table;") (fin := true) rfl (by decide) zk_X7_set_16 rfl dX7_set_1 ?_
  refine lv_iload_n hx hb dX7_set_4 rfl (lv_at hl 1 rfl) ?_
  refine lv_iload_n hx hb dX7_set_5 rfl (lv_at hl 2 rfl) ?_
  refine lv_iload_n hx hb dX7_set_6 rfl (lv_at hl 3 rfl) ?_
  obtain ⟨st1, e2, hf⟩ := zz_vo hf
  refine zz_callVv C (As := [.int v1, .int v2, .int v3]) (rest := []) (zz_Mv_e e2 (zc_X5_set 4 (by decide) _ _ _ _)) (cwV 3 hts gX7_set_X5_set rfl rfl rfl zd_X5_set ⟨Nat.le_of_ble_eq_true rfl, Nat.le_of_ble_eq_true rfl⟩) hP hS (9 + 4) (zz_c_tab (by decide)) rfl rfl hl rfl (Nat.le_of_ble_eq_true rfl) dX7_set_7 ⟨Nat.zero_le _, Nat.zero_le _⟩ (fun H locs hP hS => ?_)
  rw [← hf]
  exact zz_retv C hr hP hS dX7_set_10
/-! X7_takeOrders PW -/
theorem zd_X7_takeOrders : yX7_takeOrders.cls = RX7 ∧ yX7_takeOrders.cls ≠ "java/lang/invoke/MethodHandle" ∧ yX7_takeOrders.cls ≠ "java/lang/invoke/VarHandle" ∧ (parseMethodDescriptor yX7_takeOrders.desc).map (fun d => d.parameters.length) = some 1 := by decide +kernel
abbrev zr_X7_takeOrders : Room := { frames := 1, cells := 0, slots := 0, locals := 24 }
theorem zk_X7_takeOrders_23 : Cond.fieldLink yX7_takeOrders.cls 23 RX7 "unitCount" "I" ∈ wsX7_takeOrders := by decide +kernel
theorem zk_X7_takeOrders_16 : Cond.fieldLink yX7_takeOrders.cls 16 RX7 "units" "LThirteenthDay$Table;" ∈ wsX7_takeOrders := by decide +kernel
theorem zi_X7_takeOrders_X7 : ∀ w ∈ u_ws RX7 TX7 3, w ∈ wsX7_takeOrders := by decide +kernel
def zX7_takeOrders_2 : Nat → Int32 → Int32 → zz_T → Option zz_T
  | 0, _, _, _ => none
  | n + 1, v1, v2, st =>
    if (st.2 4) ≤ v2 then
      some st
    else
      if (zz_g 4 v2 10 st) = v1 then
        zz_v (zz_set 4 v2 10 (-1) st) fun st1 =>
        if (zz_g 4 v2 4 st1) = 1 then
          zz_v (zz_set 4 v2 4 2 st1) fun st3 =>
          zz_v (zz_set 4 v2 5 v1 st3) fun st5 =>
          zX7_takeOrders_2 n v1 (v2 + 1) st5
        else
          zX7_takeOrders_2 n v1 (v2 + 1) st1
      else
        zX7_takeOrders_2 n v1 (v2 + 1) st
set_option maxHeartbeats 4000000 in
set_option maxRecDepth 100000 in
theorem zt_X7_takeOrders_2 {l : Launch} {A : Nat → Prop} {D : va_G} {cI : ClassId} {q : Nat → Nat} {p : Program} {e : Env} {s : State} {m : MethodId} {args : Array Value} {below : List Frame} {meth : Method} {c : Code} (C : zz_C A D cI q p s m args meth c cX7_takeOrders 3 wsX7_takeOrders yX7_takeOrders.cls) (hr : meth.sig.returnType = none) : ∀ (n : Nat) (v1 : Int32) (v2 : Int32) (st : zz_T) (H : Heap) (locs : List Loc) (ls : Array Slot) (r : zz_T), zX7_takeOrders_2 n v1 v2 st = some r → va_P D vwCl (zz_c q cI st) H → va_S A s.heap H locs → lv_has ls 3 [(0, .ref (q 2)), (1, .int v1), (2, .int v2)] → W p l e zr_X7_takeOrders s m args below meth c H locs 0 0 (zz_Qv A D cI q r below args s) (F0 m 2 ls []) := by
  obtain ⟨hx, hb, hml, hown, hts⟩ := id C.1
  intro n
  induction n with
  | zero => intro v1 v2 st H locs ls r hf; cases hf
  | succ n ih =>
    intro v1 v2 st H locs ls r hf hP hS hl
    rw [zX7_takeOrders_2] at hf
    refine lv_iload_n hx hb dX7_takeOrders_2 rfl (lv_at hl 2 rfl) ?_
    refine lv_aload_n hx hb dX7_takeOrders_3 rfl (lv_at hl 0 rfl) ?_
    refine zz_getf C zi_X7_takeOrders_X7 hP 2 rfl rfl 2 (nm := "unitCount") (ds := "I") (fin := false) rfl (by decide) zk_X7_takeOrders_23 rfl dX7_takeOrders_4 ?_
    refine lv_icmp_ge (tgt := 74) hx hb dX7_takeOrders_7 (by decide) (fun h => ?_) (fun h => ?_)
    · rw [if_pos h] at hf
      rw [← (Option.some.inj hf)]
      exact zz_retv C hr hP hS dX7_takeOrders_74
    · rw [if_neg h] at hf
      refine lv_aload_n hx hb dX7_takeOrders_10 rfl (lv_at hl 0 rfl) ?_
      refine zz_getf C zi_X7_takeOrders_X7 hP 2 rfl rfl 0 (nm := "units") (ds := "LThirteenthDay$Table;") (fin := true) rfl (by decide) zk_X7_takeOrders_16 rfl dX7_takeOrders_11 ?_
      refine lv_iload_n hx hb dX7_takeOrders_14 rfl (lv_at hl 2 rfl) ?_
      refine lv_bipush (v := 10) hx hb dX7_takeOrders_15 (by decide) ?_
      refine zz_callVi C (As := [.int v2, .int 10]) (rest := []) (zc_X5_get 4 (by decide) _ _ _) (cwV 2 hts gX7_takeOrders_X5_get rfl rfl rfl zd_X5_get ⟨Nat.le_of_ble_eq_true rfl, Nat.le_of_ble_eq_true rfl⟩) hP hS (9 + 4) (zz_c_tab (by decide)) rfl rfl hl rfl (Nat.le_of_ble_eq_true rfl) dX7_takeOrders_17 ⟨Nat.zero_le _, Nat.zero_le _⟩ (fun H locs hP hS => ?_)
      refine lv_iload_n hx hb dX7_takeOrders_20 rfl (lv_at hl 1 rfl) ?_
      refine lv_icmp_ne (tgt := 68) hx hb dX7_takeOrders_21 (by decide) (fun h => ?_) (fun h => ?_)
      · rw [if_neg h] at hf
        refine lv_iinc (v := (v2 + 1)) (lv' := [(2, .int (v2 + 1)), (0, .ref (q 2)), (1, .int v1)]) hx hb dX7_takeOrders_68 hl (k := 2) rfl (congrArg (fun z => v2 + z) (by decide)) (by decide) rfl (fun ls hl => ?_)
        refine lv_goto (tgt := 2) hx hb dX7_takeOrders_71 (by decide) ?_
        exact ih _ _ _ _ _ _ _ hf hP hS (lv_sub hl [1, 2, 0] rfl)
      · rw [if_pos h] at hf
        refine lv_aload_n hx hb dX7_takeOrders_24 rfl (lv_at hl 0 rfl) ?_
        refine zz_getf C zi_X7_takeOrders_X7 hP 2 rfl rfl 0 (nm := "units") (ds := "LThirteenthDay$Table;") (fin := true) rfl (by decide) zk_X7_takeOrders_16 rfl dX7_takeOrders_25 ?_
        refine lv_iload_n hx hb dX7_takeOrders_28 rfl (lv_at hl 2 rfl) ?_
        refine lv_bipush (v := 10) hx hb dX7_takeOrders_29 (by decide) ?_
        refine lv_iconst (v := (-1)) hx hb dX7_takeOrders_31 (by decide) ?_
        obtain ⟨st1, e2, hf⟩ := zz_vo hf
        refine zz_callVv C (As := [.int v2, .int 10, .int (-1)]) (rest := []) (zz_Mv_e e2 (zc_X5_set 4 (by decide) _ _ _ _)) (cwV 3 hts gX7_takeOrders_X5_set rfl rfl rfl zd_X5_set ⟨Nat.le_of_ble_eq_true rfl, Nat.le_of_ble_eq_true rfl⟩) hP hS (9 + 4) (zz_c_tab (by decide)) rfl rfl hl rfl (Nat.le_of_ble_eq_true rfl) dX7_takeOrders_32 ⟨Nat.zero_le _, Nat.zero_le _⟩ (fun H locs hP hS => ?_)
        refine lv_aload_n hx hb dX7_takeOrders_35 rfl (lv_at hl 0 rfl) ?_
        refine zz_getf C zi_X7_takeOrders_X7 hP 2 rfl rfl 0 (nm := "units") (ds := "LThirteenthDay$Table;") (fin := true) rfl (by decide) zk_X7_takeOrders_16 rfl dX7_takeOrders_36 ?_
        refine lv_iload_n hx hb dX7_takeOrders_39 rfl (lv_at hl 2 rfl) ?_
        refine lv_iconst (v := 4) hx hb dX7_takeOrders_40 (by decide) ?_
        refine zz_callVi C (As := [.int v2, .int 4]) (rest := []) (zc_X5_get 4 (by decide) _ _ _) (cwV 2 hts gX7_takeOrders_X5_get rfl rfl rfl zd_X5_get ⟨Nat.le_of_ble_eq_true rfl, Nat.le_of_ble_eq_true rfl⟩) hP hS (9 + 4) (zz_c_tab (by decide)) rfl rfl hl rfl (Nat.le_of_ble_eq_true rfl) dX7_takeOrders_41 ⟨Nat.zero_le _, Nat.zero_le _⟩ (fun H locs hP hS => ?_)
        refine lv_iconst (v := 1) hx hb dX7_takeOrders_44 (by decide) ?_
        refine lv_icmp_ne (tgt := 68) hx hb dX7_takeOrders_45 (by decide) (fun h => ?_) (fun h => ?_)
        · rw [if_neg h] at hf
          refine lv_iinc (v := (v2 + 1)) (lv' := [(2, .int (v2 + 1)), (0, .ref (q 2)), (1, .int v1)]) hx hb dX7_takeOrders_68 hl (k := 2) rfl (congrArg (fun z => v2 + z) (by decide)) (by decide) rfl (fun ls hl => ?_)
          refine lv_goto (tgt := 2) hx hb dX7_takeOrders_71 (by decide) ?_
          exact ih _ _ _ _ _ _ _ hf hP hS (lv_sub hl [1, 2, 0] rfl)
        · rw [if_pos h] at hf
          refine lv_aload_n hx hb dX7_takeOrders_48 rfl (lv_at hl 0 rfl) ?_
          refine zz_getf C zi_X7_takeOrders_X7 hP 2 rfl rfl 0 (nm := "units") (ds := "LThirteenthDay$Table;") (fin := true) rfl (by decide) zk_X7_takeOrders_16 rfl dX7_takeOrders_49 ?_
          refine lv_iload_n hx hb dX7_takeOrders_52 rfl (lv_at hl 2 rfl) ?_
          refine lv_iconst (v := 4) hx hb dX7_takeOrders_53 (by decide) ?_
          refine lv_iconst (v := 2) hx hb dX7_takeOrders_54 (by decide) ?_
          obtain ⟨st3, e4, hf⟩ := zz_vo hf
          refine zz_callVv C (As := [.int v2, .int 4, .int 2]) (rest := []) (zz_Mv_e e4 (zc_X5_set 4 (by decide) _ _ _ _)) (cwV 3 hts gX7_takeOrders_X5_set rfl rfl rfl zd_X5_set ⟨Nat.le_of_ble_eq_true rfl, Nat.le_of_ble_eq_true rfl⟩) hP hS (9 + 4) (zz_c_tab (by decide)) rfl rfl hl rfl (Nat.le_of_ble_eq_true rfl) dX7_takeOrders_55 ⟨Nat.zero_le _, Nat.zero_le _⟩ (fun H locs hP hS => ?_)
          refine lv_aload_n hx hb dX7_takeOrders_58 rfl (lv_at hl 0 rfl) ?_
          refine zz_getf C zi_X7_takeOrders_X7 hP 2 rfl rfl 0 (nm := "units") (ds := "LThirteenthDay$Table;") (fin := true) rfl (by decide) zk_X7_takeOrders_16 rfl dX7_takeOrders_59 ?_
          refine lv_iload_n hx hb dX7_takeOrders_62 rfl (lv_at hl 2 rfl) ?_
          refine lv_iconst (v := 5) hx hb dX7_takeOrders_63 (by decide) ?_
          refine lv_iload_n hx hb dX7_takeOrders_64 rfl (lv_at hl 1 rfl) ?_
          obtain ⟨st5, e6, hf⟩ := zz_vo hf
          refine zz_callVv C (As := [.int v2, .int 5, .int v1]) (rest := []) (zz_Mv_e e6 (zc_X5_set 4 (by decide) _ _ _ _)) (cwV 3 hts gX7_takeOrders_X5_set rfl rfl rfl zd_X5_set ⟨Nat.le_of_ble_eq_true rfl, Nat.le_of_ble_eq_true rfl⟩) hP hS (9 + 4) (zz_c_tab (by decide)) rfl rfl hl rfl (Nat.le_of_ble_eq_true rfl) dX7_takeOrders_65 ⟨Nat.zero_le _, Nat.zero_le _⟩ (fun H locs hP hS => ?_)
          refine lv_iinc (v := (v2 + 1)) (lv' := [(2, .int (v2 + 1)), (0, .ref (q 2)), (1, .int v1)]) hx hb dX7_takeOrders_68 hl (k := 2) rfl (congrArg (fun z => v2 + z) (by decide)) (by decide) rfl (fun ls hl => ?_)
          refine lv_goto (tgt := 2) hx hb dX7_takeOrders_71 (by decide) ?_
          exact ih _ _ _ _ _ _ _ hf hP hS (lv_sub hl [1, 2, 0] rfl)
def zX7_takeOrders (v1 : Int32) (st : zz_T) : Option zz_T :=
  zX7_takeOrders_2 zz_N v1 0 st
set_option maxHeartbeats 4000000 in
set_option maxRecDepth 100000 in
theorem zc_X7_takeOrders {l : Launch} {A : Nat → Prop} {D : va_G} {cI : ClassId} {q : Nat → Nat} (v1 : Int32) (st : zz_T) (r : zz_T) (hf : zX7_takeOrders v1 st = some r) : zz_Mv l A D cI q yX7_takeOrders wsX7_takeOrders zr_X7_takeOrders [.ref (q 2), .int v1] st r := by
  refine zz_of (cc := cX7_takeOrders) (nL := 3) (ret := none) (by decide) rfl (Nat.le_of_ble_eq_true rfl) ?_
  intro p e s m args below meth c ls C hr hP hS hl
  obtain ⟨hx, hb, hml, hown, hts⟩ := id C.1
  have hl : lv_has ls 3 [(0, .ref (q 2)), (1, .int v1)] := hl
  rw [zX7_takeOrders] at hf
  skip
  refine lv_iconst (v := 0) hx hb dX7_takeOrders_0 (by decide) ?_
  refine lv_istore_n (lv' := [(2, .int 0), (0, .ref (q 2)), (1, .int v1)]) hx hb dX7_takeOrders_1 rfl hl (by decide) rfl (fun ls hl => ?_)
  exact zt_X7_takeOrders_2 C hr zz_N _ _ _ _ _ _ _ hf hP hS (lv_sub hl [1, 2, 0] rfl)
/-! X7_takeStop TW -/
theorem zd_X7_takeStop : yX7_takeStop.cls = RX7 ∧ yX7_takeStop.cls ≠ "java/lang/invoke/MethodHandle" ∧ yX7_takeStop.cls ≠ "java/lang/invoke/VarHandle" ∧ (parseMethodDescriptor yX7_takeStop.desc).map (fun d => d.parameters.length) = some 2 := by decide +kernel
abbrev zr_X7_takeStop : Room := { frames := 2, cells := 0, slots := 0, locals := 46 }
theorem zk_X7_takeStop_16 : Cond.fieldLink yX7_takeStop.cls 16 RX7 "units" "LThirteenthDay$Table;" ∈ wsX7_takeStop := by decide +kernel
theorem zi_X7_takeStop_X7 : ∀ w ∈ u_ws RX7 TX7 3, w ∈ wsX7_takeStop := by decide +kernel
def zX7_takeStop_54 (v1 : Int32) (k0 : Bool) (st : zz_T) : (Bool × zz_T) :=
  if k0 = true then
    zz_v (zz_set 4 v1 4 3 st) fun st3 =>
    (k0, st3)
  else
    (k0, st)
set_option maxHeartbeats 4000000 in
set_option maxRecDepth 100000 in
theorem zt_X7_takeStop_54 {l : Launch} {A : Nat → Prop} {D : va_G} {cI : ClassId} {q : Nat → Nat} {p : Program} {e : Env} {s : State} {m : MethodId} {args : Array Value} {below : List Frame} {meth : Method} {c : Code} (C : zz_C A D cI q p s m args meth c cX7_takeStop 4 wsX7_takeStop yX7_takeStop.cls) (hr : meth.sig.returnType = some .boolean) : ∀ (v1 : Int32) (k0 : Bool) (st : zz_T) (H : Heap) (locs : List Loc) (ls : Array Slot) (r : (Bool × zz_T)), zX7_takeStop_54 v1 k0 st = r → va_P D vwCl (zz_c q cI st) H → va_S A s.heap H locs → lv_has ls 4 [(0, .ref (q 2)), (1, .int v1)] → W p l e zr_X7_takeStop s m args below meth c H locs 0 0 (zz_Qi A D cI q (zz_b r.1) r.2 below args s) (F0 m 54 ls [.int (zz_b k0)]) := by
  obtain ⟨hx, hb, hml, hown, hts⟩ := id C.1
  intro v1 k0 st H locs ls r hf hP hS hl
  rw [zX7_takeStop_54] at hf
  refine lv_istore_n (lv' := [(3, .int (zz_b k0)), (0, .ref (q 2)), (1, .int v1)]) hx hb dX7_takeStop_54 rfl hl (by decide) rfl (fun ls hl => ?_)
  refine lv_iload_n hx hb dX7_takeStop_55 rfl (lv_at hl 0 rfl) ?_
  refine lv_if_eq (tgt := 69) hx hb dX7_takeStop_56 (by decide) (fun h => ?_) (fun h => ?_)
  · rw [zz_if0 (zz_b0 h)] at hf
    refine lv_iload_n hx hb dX7_takeStop_69 rfl (lv_at hl 0 rfl) ?_
    rw [← hf]
    exact zz_retz (v := k0) C hr hP hS dX7_takeStop_70
  · rw [zz_if1 (zz_b1 h)] at hf
    refine lv_aload_n hx hb dX7_takeStop_59 rfl (lv_at hl 1 rfl) ?_
    refine zz_getf C zi_X7_takeStop_X7 hP 2 rfl rfl 0 (nm := "units") (ds := "LThirteenthDay$Table;") (fin := true) rfl (by decide) zk_X7_takeStop_16 rfl dX7_takeStop_60 ?_
    refine lv_iload_n hx hb dX7_takeStop_63 rfl (lv_at hl 2 rfl) ?_
    refine lv_iconst (v := 4) hx hb dX7_takeStop_64 (by decide) ?_
    refine lv_iconst (v := 3) hx hb dX7_takeStop_65 (by decide) ?_
    obtain ⟨st3, e4, hf⟩ := zz_vo hf
    refine zz_callVv C (As := [.int v1, .int 4, .int 3]) (rest := []) (zz_Mv_e e4 (zc_X5_set 4 (by decide) _ _ _ _)) (cwV 3 hts gX7_takeStop_X5_set rfl rfl rfl zd_X5_set ⟨Nat.le_of_ble_eq_true rfl, Nat.le_of_ble_eq_true rfl⟩) hP hS (9 + 4) (zz_c_tab (by decide)) rfl rfl hl rfl (Nat.le_of_ble_eq_true rfl) dX7_takeStop_66 ⟨Nat.zero_le _, Nat.zero_le _⟩ (fun H locs hP hS => ?_)
    refine lv_iload_n hx hb dX7_takeStop_69 rfl (lv_at hl 0 rfl) ?_
    rw [← hf]
    exact zz_retz (v := k0) C hr hP hS dX7_takeStop_70
def zX7_takeStop (v1 : Int32) (v2 : Int32) (st : zz_T) : (Bool × zz_T) :=
  if (zz_g 4 v1 11 st) = v2 then
    zz_v (zz_set 4 v1 11 (-1) st) fun st1 =>
    if (zz_g 4 v1 4 st1) = 1 then
      zX7_takeStop_54 v1 true st1
    else
      if (zX7_ticksToStop v1 v2 st1) ≤ 0 then
        zX7_takeStop_54 v1 false st1
      else
        zX7_takeStop_54 v1 true st1
  else
    (false, st)
set_option maxHeartbeats 4000000 in
set_option maxRecDepth 100000 in
theorem zc_X7_takeStop {l : Launch} {A : Nat → Prop} {D : va_G} {cI : ClassId} {q : Nat → Nat} (v1 : Int32) (v2 : Int32) (st : zz_T) : zz_Mi l A D cI q yX7_takeStop wsX7_takeStop zr_X7_takeStop [.ref (q 2), .int v1, .int v2] st (zz_b (zX7_takeStop v1 v2 st).1) (zX7_takeStop v1 v2 st).2 := by
  refine zz_of (cc := cX7_takeStop) (nL := 4) (ret := some .boolean) (by decide) rfl (Nat.le_of_ble_eq_true rfl) ?_
  intro p e s m args below meth c ls C hr hP hS hl
  obtain ⟨hx, hb, hml, hown, hts⟩ := id C.1
  have hl : lv_has ls 4 [(0, .ref (q 2)), (1, .int v1), (2, .int v2)] := hl
  obtain ⟨r, hf⟩ : ∃ r, zX7_takeStop v1 v2 st = r := ⟨_, rfl⟩
  rw [hf]
  rw [zX7_takeStop] at hf
  skip
  refine lv_aload_n hx hb dX7_takeStop_0 rfl (lv_at hl 0 rfl) ?_
  refine zz_getf C zi_X7_takeStop_X7 hP 2 rfl rfl 0 (nm := "units") (ds := "LThirteenthDay$Table;") (fin := true) rfl (by decide) zk_X7_takeStop_16 rfl dX7_takeStop_1 ?_
  refine lv_iload_n hx hb dX7_takeStop_4 rfl (lv_at hl 1 rfl) ?_
  refine lv_bipush (v := 11) hx hb dX7_takeStop_5 (by decide) ?_
  refine zz_callVi C (As := [.int v1, .int 11]) (rest := []) (zc_X5_get 4 (by decide) _ _ _) (cwV 2 hts gX7_takeStop_X5_get rfl rfl rfl zd_X5_get ⟨Nat.le_of_ble_eq_true rfl, Nat.le_of_ble_eq_true rfl⟩) hP hS (9 + 4) (zz_c_tab (by decide)) rfl rfl hl rfl (Nat.le_of_ble_eq_true rfl) dX7_takeStop_7 ⟨Nat.zero_le _, Nat.zero_le _⟩ (fun H locs hP hS => ?_)
  refine lv_iload_n hx hb dX7_takeStop_10 rfl (lv_at hl 2 rfl) ?_
  refine lv_icmp_eq (tgt := 16) hx hb dX7_takeStop_11 (by decide) (fun h => ?_) (fun h => ?_)
  · rw [if_pos h] at hf
    refine lv_aload_n hx hb dX7_takeStop_16 rfl (lv_at hl 0 rfl) ?_
    refine zz_getf C zi_X7_takeStop_X7 hP 2 rfl rfl 0 (nm := "units") (ds := "LThirteenthDay$Table;") (fin := true) rfl (by decide) zk_X7_takeStop_16 rfl dX7_takeStop_17 ?_
    refine lv_iload_n hx hb dX7_takeStop_20 rfl (lv_at hl 1 rfl) ?_
    refine lv_bipush (v := 11) hx hb dX7_takeStop_21 (by decide) ?_
    refine lv_iconst (v := (-1)) hx hb dX7_takeStop_23 (by decide) ?_
    obtain ⟨st1, e2, hf⟩ := zz_vo hf
    refine zz_callVv C (As := [.int v1, .int 11, .int (-1)]) (rest := []) (zz_Mv_e e2 (zc_X5_set 4 (by decide) _ _ _ _)) (cwV 3 hts gX7_takeStop_X5_set rfl rfl rfl zd_X5_set ⟨Nat.le_of_ble_eq_true rfl, Nat.le_of_ble_eq_true rfl⟩) hP hS (9 + 4) (zz_c_tab (by decide)) rfl rfl hl rfl (Nat.le_of_ble_eq_true rfl) dX7_takeStop_24 ⟨Nat.zero_le _, Nat.zero_le _⟩ (fun H locs hP hS => ?_)
    refine lv_aload_n hx hb dX7_takeStop_27 rfl (lv_at hl 0 rfl) ?_
    refine zz_getf C zi_X7_takeStop_X7 hP 2 rfl rfl 0 (nm := "units") (ds := "LThirteenthDay$Table;") (fin := true) rfl (by decide) zk_X7_takeStop_16 rfl dX7_takeStop_28 ?_
    refine lv_iload_n hx hb dX7_takeStop_31 rfl (lv_at hl 1 rfl) ?_
    refine lv_iconst (v := 4) hx hb dX7_takeStop_32 (by decide) ?_
    refine zz_callVi C (As := [.int v1, .int 4]) (rest := []) (zc_X5_get 4 (by decide) _ _ _) (cwV 2 hts gX7_takeStop_X5_get rfl rfl rfl zd_X5_get ⟨Nat.le_of_ble_eq_true rfl, Nat.le_of_ble_eq_true rfl⟩) hP hS (9 + 4) (zz_c_tab (by decide)) rfl rfl hl rfl (Nat.le_of_ble_eq_true rfl) dX7_takeStop_33 ⟨Nat.zero_le _, Nat.zero_le _⟩ (fun H locs hP hS => ?_)
    refine lv_iconst (v := 1) hx hb dX7_takeStop_36 (by decide) ?_
    refine lv_icmp_eq (tgt := 49) hx hb dX7_takeStop_37 (by decide) (fun h => ?_) (fun h => ?_)
    · rw [if_pos h] at hf
      refine lv_iconst (v := 1) hx hb dX7_takeStop_49 (by decide) ?_
      refine lv_goto (tgt := 54) hx hb dX7_takeStop_50 (by decide) ?_
      exact zt_X7_takeStop_54 C hr _ _ _ _ _ _ _ hf hP hS (lv_sub hl [0, 1] rfl)
    · rw [if_neg h] at hf
      refine lv_aload_n hx hb dX7_takeStop_40 rfl (lv_at hl 0 rfl) ?_
      refine lv_iload_n hx hb dX7_takeStop_41 rfl (lv_at hl 1 rfl) ?_
      refine lv_iload_n hx hb dX7_takeStop_42 rfl (lv_at hl 2 rfl) ?_
      refine zz_callVi C (As := [.int v1, .int v2]) (rest := []) (zc_X7_ticksToStop _ _ _) (cwV 2 hts gX7_takeStop_X7_ticksToStop rfl rfl rfl zd_X7_ticksToStop ⟨Nat.le_of_ble_eq_true rfl, Nat.le_of_ble_eq_true rfl⟩) hP hS 2 rfl rfl rfl hl rfl (Nat.le_of_ble_eq_true rfl) dX7_takeStop_43 ⟨Nat.zero_le _, Nat.zero_le _⟩ (fun H locs hP hS => ?_)
      refine lv_if_le (tgt := 53) hx hb dX7_takeStop_46 (by decide) (fun h => ?_) (fun h => ?_)
      · rw [if_pos h] at hf
        refine lv_iconst (v := 0) hx hb dX7_takeStop_53 (by decide) ?_
        exact zt_X7_takeStop_54 C hr _ _ _ _ _ _ _ hf hP hS (lv_sub hl [0, 1] rfl)
      · rw [if_neg h] at hf
        refine lv_iconst (v := 1) hx hb dX7_takeStop_49 (by decide) ?_
        refine lv_goto (tgt := 54) hx hb dX7_takeStop_50 (by decide) ?_
        exact zt_X7_takeStop_54 C hr _ _ _ _ _ _ _ hf hP hS (lv_sub hl [0, 1] rfl)
  · rw [if_neg h] at hf
    refine lv_iconst (v := 0) hx hb dX7_takeStop_14 (by decide) ?_
    rw [← hf]
    exact zz_retz (v := false) C hr hP hS dX7_takeStop_15
/-! X7_workAt PW -/
theorem zd_X7_workAt : yX7_workAt.cls = RX7 ∧ yX7_workAt.cls ≠ "java/lang/invoke/MethodHandle" ∧ yX7_workAt.cls ≠ "java/lang/invoke/VarHandle" ∧ (parseMethodDescriptor yX7_workAt.desc).map (fun d => d.parameters.length) = some 1 := by decide +kernel
abbrev zr_X7_workAt : Room := { frames := 2, cells := 0, slots := 0, locals := 48 }
theorem zk_X7_workAt_16 : Cond.fieldLink yX7_workAt.cls 16 RX7 "units" "LThirteenthDay$Table;" ∈ wsX7_workAt := by decide +kernel
theorem zi_X7_workAt_X7 : ∀ w ∈ u_ws RX7 TX7 3, w ∈ wsX7_workAt := by decide +kernel
def zX7_workAt (v1 : Int32) (st : zz_T) : Option zz_T :=
  (zX7_nextOf v1 st).bind fun x1 =>
  if x1 = (-1) then
    some st
  else
    zz_v (zz_add 4 x1 12 1 st) fun st3 =>
    if (zz_g 4 x1 12 st3) < (zX7_workOf (zz_g 4 x1 0 st3) st3) then
      some st3
    else
      zz_v (zz_set 4 x1 12 0 st3) fun st5 =>
      zz_v (zz_add 4 x1 6 1 st5) fun st7 =>
      some st7
set_option maxHeartbeats 4000000 in
set_option maxRecDepth 100000 in
theorem zc_X7_workAt {l : Launch} {A : Nat → Prop} {D : va_G} {cI : ClassId} {q : Nat → Nat} (v1 : Int32) (st : zz_T) (r : zz_T) (hf : zX7_workAt v1 st = some r) : zz_Mv l A D cI q yX7_workAt wsX7_workAt zr_X7_workAt [.ref (q 2), .int v1] st r := by
  refine zz_of (cc := cX7_workAt) (nL := 3) (ret := none) (by decide) rfl (Nat.le_of_ble_eq_true rfl) ?_
  intro p e s m args below meth c ls C hr hP hS hl
  obtain ⟨hx, hb, hml, hown, hts⟩ := id C.1
  have hl : lv_has ls 3 [(0, .ref (q 2)), (1, .int v1)] := hl
  rw [zX7_workAt] at hf
  skip
  refine lv_aload_n hx hb dX7_workAt_0 rfl (lv_at hl 0 rfl) ?_
  refine lv_iload_n hx hb dX7_workAt_1 rfl (lv_at hl 1 rfl) ?_
  obtain ⟨x1, e2, hf⟩ := zz_bo hf
  refine zz_callVi C (As := [.int v1]) (rest := []) (zc_X7_nextOf _ _ _ e2) (cwV 1 hts gX7_workAt_X7_nextOf rfl rfl rfl zd_X7_nextOf ⟨Nat.le_of_ble_eq_true rfl, Nat.le_of_ble_eq_true rfl⟩) hP hS 2 rfl rfl rfl hl rfl (Nat.le_of_ble_eq_true rfl) dX7_workAt_2 ⟨Nat.zero_le _, Nat.zero_le _⟩ (fun H locs hP hS => ?_)
  refine lv_istore_n (lv' := [(2, .int x1), (0, .ref (q 2)), (1, .int v1)]) hx hb dX7_workAt_5 rfl hl (by decide) rfl (fun ls hl => ?_)
  refine lv_iload_n hx hb dX7_workAt_6 rfl (lv_at hl 0 rfl) ?_
  refine lv_iconst (v := (-1)) hx hb dX7_workAt_7 (by decide) ?_
  refine lv_icmp_ne (tgt := 12) hx hb dX7_workAt_8 (by decide) (fun h => ?_) (fun h => ?_)
  · rw [if_neg h] at hf
    refine lv_aload_n hx hb dX7_workAt_12 rfl (lv_at hl 1 rfl) ?_
    refine zz_getf C zi_X7_workAt_X7 hP 2 rfl rfl 0 (nm := "units") (ds := "LThirteenthDay$Table;") (fin := true) rfl (by decide) zk_X7_workAt_16 rfl dX7_workAt_13 ?_
    refine lv_iload_n hx hb dX7_workAt_16 rfl (lv_at hl 0 rfl) ?_
    refine lv_bipush (v := 12) hx hb dX7_workAt_17 (by decide) ?_
    refine lv_iconst (v := 1) hx hb dX7_workAt_19 (by decide) ?_
    obtain ⟨st3, e4, hf⟩ := zz_vo hf
    refine zz_callVv C (As := [.int x1, .int 12, .int 1]) (rest := []) (zz_Mv_e e4 (zc_X5_add 4 (by decide) _ _ _ _)) (cwV 3 hts gX7_workAt_X5_add rfl rfl rfl zd_X5_add ⟨Nat.le_of_ble_eq_true rfl, Nat.le_of_ble_eq_true rfl⟩) hP hS (9 + 4) (zz_c_tab (by decide)) rfl rfl hl rfl (Nat.le_of_ble_eq_true rfl) dX7_workAt_20 ⟨Nat.zero_le _, Nat.zero_le _⟩ (fun H locs hP hS => ?_)
    refine lv_aload_n hx hb dX7_workAt_23 rfl (lv_at hl 1 rfl) ?_
    refine zz_getf C zi_X7_workAt_X7 hP 2 rfl rfl 0 (nm := "units") (ds := "LThirteenthDay$Table;") (fin := true) rfl (by decide) zk_X7_workAt_16 rfl dX7_workAt_24 ?_
    refine lv_iload_n hx hb dX7_workAt_27 rfl (lv_at hl 0 rfl) ?_
    refine lv_bipush (v := 12) hx hb dX7_workAt_28 (by decide) ?_
    refine zz_callVi C (As := [.int x1, .int 12]) (rest := []) (zc_X5_get 4 (by decide) _ _ _) (cwV 2 hts gX7_workAt_X5_get rfl rfl rfl zd_X5_get ⟨Nat.le_of_ble_eq_true rfl, Nat.le_of_ble_eq_true rfl⟩) hP hS (9 + 4) (zz_c_tab (by decide)) rfl rfl hl rfl (Nat.le_of_ble_eq_true rfl) dX7_workAt_30 ⟨Nat.zero_le _, Nat.zero_le _⟩ (fun H locs hP hS => ?_)
    refine lv_aload_n hx hb dX7_workAt_33 rfl (lv_at hl 1 rfl) ?_
    refine zz_getf C zi_X7_workAt_X7 hP 2 rfl rfl 0 (nm := "units") (ds := "LThirteenthDay$Table;") (fin := true) rfl (by decide) zk_X7_workAt_16 rfl dX7_workAt_34 ?_
    refine lv_iload_n hx hb dX7_workAt_37 rfl (lv_at hl 0 rfl) ?_
    refine lv_iconst (v := 0) hx hb dX7_workAt_38 (by decide) ?_
    refine zz_callVi C (As := [.int x1, .int 0]) (rest := [.int (zz_g 4 x1 12 st3)]) (zc_X5_get 4 (by decide) _ _ _) (cwV 2 hts gX7_workAt_X5_get rfl rfl rfl zd_X5_get ⟨Nat.le_of_ble_eq_true rfl, Nat.le_of_ble_eq_true rfl⟩) hP hS (9 + 4) (zz_c_tab (by decide)) rfl rfl hl rfl (Nat.le_of_ble_eq_true rfl) dX7_workAt_39 ⟨Nat.zero_le _, Nat.zero_le _⟩ (fun H locs hP hS => ?_)
    refine zz_callSi C (As := [.int (zz_g 4 x1 0 st3)]) (rest := [.int (zz_g 4 x1 12 st3)]) (zc_X7_workOf _ _) (va_cwS 1 hts gX7_workAt_X7_workOf rfl rfl rfl zd_X7_workOf.2 ⟨Nat.le_of_ble_eq_true rfl, Nat.le_of_ble_eq_true rfl⟩) hP hS rfl hl rfl (Nat.le_of_ble_eq_true rfl) dX7_workAt_42 ⟨Nat.zero_le _, Nat.zero_le _⟩ (fun H locs hP hS => ?_)
    refine lv_icmp_lt (tgt := 70) hx hb dX7_workAt_45 (by decide) (fun h => ?_) (fun h => ?_)
    · rw [if_pos h] at hf
      rw [← (Option.some.inj hf)]
      exact zz_retv C hr hP hS dX7_workAt_70
    · rw [if_neg h] at hf
      refine lv_aload_n hx hb dX7_workAt_48 rfl (lv_at hl 1 rfl) ?_
      refine zz_getf C zi_X7_workAt_X7 hP 2 rfl rfl 0 (nm := "units") (ds := "LThirteenthDay$Table;") (fin := true) rfl (by decide) zk_X7_workAt_16 rfl dX7_workAt_49 ?_
      refine lv_iload_n hx hb dX7_workAt_52 rfl (lv_at hl 0 rfl) ?_
      refine lv_bipush (v := 12) hx hb dX7_workAt_53 (by decide) ?_
      refine lv_iconst (v := 0) hx hb dX7_workAt_55 (by decide) ?_
      obtain ⟨st5, e6, hf⟩ := zz_vo hf
      refine zz_callVv C (As := [.int x1, .int 12, .int 0]) (rest := []) (zz_Mv_e e6 (zc_X5_set 4 (by decide) _ _ _ _)) (cwV 3 hts gX7_workAt_X5_set rfl rfl rfl zd_X5_set ⟨Nat.le_of_ble_eq_true rfl, Nat.le_of_ble_eq_true rfl⟩) hP hS (9 + 4) (zz_c_tab (by decide)) rfl rfl hl rfl (Nat.le_of_ble_eq_true rfl) dX7_workAt_56 ⟨Nat.zero_le _, Nat.zero_le _⟩ (fun H locs hP hS => ?_)
      refine lv_aload_n hx hb dX7_workAt_59 rfl (lv_at hl 1 rfl) ?_
      refine zz_getf C zi_X7_workAt_X7 hP 2 rfl rfl 0 (nm := "units") (ds := "LThirteenthDay$Table;") (fin := true) rfl (by decide) zk_X7_workAt_16 rfl dX7_workAt_60 ?_
      refine lv_iload_n hx hb dX7_workAt_63 rfl (lv_at hl 0 rfl) ?_
      refine lv_bipush (v := 6) hx hb dX7_workAt_64 (by decide) ?_
      refine lv_iconst (v := 1) hx hb dX7_workAt_66 (by decide) ?_
      obtain ⟨st7, e8, hf⟩ := zz_vo hf
      refine zz_callVv C (As := [.int x1, .int 6, .int 1]) (rest := []) (zz_Mv_e e8 (zc_X5_add 4 (by decide) _ _ _ _)) (cwV 3 hts gX7_workAt_X5_add rfl rfl rfl zd_X5_add ⟨Nat.le_of_ble_eq_true rfl, Nat.le_of_ble_eq_true rfl⟩) hP hS (9 + 4) (zz_c_tab (by decide)) rfl rfl hl rfl (Nat.le_of_ble_eq_true rfl) dX7_workAt_67 ⟨Nat.zero_le _, Nat.zero_le _⟩ (fun H locs hP hS => ?_)
      rw [← (Option.some.inj hf)]
      exact zz_retv C hr hP hS dX7_workAt_70
  · rw [if_pos h] at hf
    rw [← (Option.some.inj hf)]
    exact zz_retv C hr hP hS dX7_workAt_11
/-! X8_aim PW -/
theorem zd_X8_aim : yX8_aim.cls = RX8 ∧ yX8_aim.cls ≠ "java/lang/invoke/MethodHandle" ∧ yX8_aim.cls ≠ "java/lang/invoke/VarHandle" ∧ (parseMethodDescriptor yX8_aim.desc).map (fun d => d.parameters.length) = some 3 := by decide +kernel
abbrev zr_X8_aim : Room := { frames := 1, cells := 0, slots := 0, locals := 24 }
theorem zk_X8_aim_19 : Cond.fieldLink yX8_aim.cls 19 RX8 "units" "LThirteenthDay$Units;" ∈ wsX8_aim := by decide +kernel
theorem zk_X8_aim_66 : Cond.fieldLink yX8_aim.cls 66 RX8 "aims" "LThirteenthDay$Table;" ∈ wsX8_aim := by decide +kernel
theorem zi_X8_aim_X8 : ∀ w ∈ u_ws RX8 TX8 11, w ∈ wsX8_aim := by decide +kernel
def zX8_aim (v1 : Int32) (v2 : Int32) (v3 : Int32) (st : zz_T) : Option (Int32 × zz_T) :=
  if v1 < 0 then
    none
  else
    if v1 < 4 then
      if (zX7_has v2 st) = true then
        if (zX8_isNoSector v3 st) = true then
          none
        else
          zz_v (zz_g 23 v1 v2 st) fun w1 =>
          zz_v (zz_set 23 v1 v2 v3 st) fun st2 =>
          some (w1, st2)
      else
        none
    else
      none
set_option maxHeartbeats 4000000 in
set_option maxRecDepth 100000 in
theorem zc_X8_aim {l : Launch} {A : Nat → Prop} {D : va_G} {cI : ClassId} {q : Nat → Nat} (v1 : Int32) (v2 : Int32) (v3 : Int32) (st : zz_T) (r : (Int32 × zz_T)) (hf : zX8_aim v1 v2 v3 st = some r) : zz_Mi l A D cI q yX8_aim wsX8_aim zr_X8_aim [.ref (q 0), .int v1, .int v2, .int v3] st r.1 r.2 := by
  refine zz_of (cc := cX8_aim) (nL := 5) (ret := some .int) (by decide) rfl (Nat.le_of_ble_eq_true rfl) ?_
  intro p e s m args below meth c ls C hr hP hS hl
  obtain ⟨hx, hb, hml, hown, hts⟩ := id C.1
  have hl : lv_has ls 5 [(0, .ref (q 0)), (1, .int v1), (2, .int v2), (3, .int v3)] := hl
  rw [zX8_aim] at hf
  skip
  refine lv_iload_n hx hb dX8_aim_0 rfl (lv_at hl 1 rfl) ?_
  refine lv_if_lt (tgt := 9) hx hb dX8_aim_1 (by decide) (fun h => ?_) (fun h => ?_)
  · rw [if_pos h] at hf
    cases hf
  · rw [if_neg h] at hf
    refine lv_iload_n hx hb dX8_aim_4 rfl (lv_at hl 1 rfl) ?_
    refine lv_iconst (v := 4) hx hb dX8_aim_5 (by decide) ?_
    refine lv_icmp_lt (tgt := 20) hx hb dX8_aim_6 (by decide) (fun h => ?_) (fun h => ?_)
    · rw [if_pos h] at hf
      refine lv_aload_n hx hb dX8_aim_20 rfl (lv_at hl 0 rfl) ?_
      refine zz_getf C zi_X8_aim_X8 hP 0 rfl rfl 1 (nm := "units") (ds := "LThirteenthDay$Units;") (fin := true) rfl (by decide) zk_X8_aim_19 rfl dX8_aim_21 ?_
      refine lv_iload_n hx hb dX8_aim_24 rfl (lv_at hl 2 rfl) ?_
      refine zz_callVi C (As := [.int v2]) (rest := []) (zc_X7_has _ _) (cwV 1 hts gX8_aim_X7_has rfl rfl rfl zd_X7_has ⟨Nat.le_of_ble_eq_true rfl, Nat.le_of_ble_eq_true rfl⟩) hP hS 2 rfl rfl rfl hl rfl (Nat.le_of_ble_eq_true rfl) dX8_aim_25 ⟨Nat.zero_le _, Nat.zero_le _⟩ (fun H locs hP hS => ?_)
      refine lv_if_ne (tgt := 41) hx hb dX8_aim_28 (by decide) (fun h => ?_) (fun h => ?_)
      · rw [zz_if1 (zz_b1 h)] at hf
        refine lv_iload_n hx hb dX8_aim_41 rfl (lv_at hl 3 rfl) ?_
        refine zz_callSi C (As := [.int v3]) (rest := []) (zc_X8_isNoSector _ _) (va_cwS 1 hts gX8_aim_X8_isNoSector rfl rfl rfl zd_X8_isNoSector.2 ⟨Nat.le_of_ble_eq_true rfl, Nat.le_of_ble_eq_true rfl⟩) hP hS rfl hl rfl (Nat.le_of_ble_eq_true rfl) dX8_aim_42 ⟨Nat.zero_le _, Nat.zero_le _⟩ (fun H locs hP hS => ?_)
        refine lv_if_eq (tgt := 58) hx hb dX8_aim_45 (by decide) (fun h => ?_) (fun h => ?_)
        · rw [zz_if0 (zz_b0 h)] at hf
          refine lv_aload_n hx hb dX8_aim_58 rfl (lv_at hl 0 rfl) ?_
          refine zz_getf C zi_X8_aim_X8 hP 0 rfl rfl 8 (nm := "aims") (ds := "LThirteenthDay$Table;") (fin := true) rfl (by decide) zk_X8_aim_66 rfl dX8_aim_59 ?_
          refine lv_iload_n hx hb dX8_aim_62 rfl (lv_at hl 1 rfl) ?_
          refine lv_iload_n hx hb dX8_aim_63 rfl (lv_at hl 2 rfl) ?_
          refine zz_callVi C (As := [.int v1, .int v2]) (rest := []) (zc_X5_get 23 (by decide) _ _ _) (cwV 2 hts gX8_aim_X5_get rfl rfl rfl zd_X5_get ⟨Nat.le_of_ble_eq_true rfl, Nat.le_of_ble_eq_true rfl⟩) hP hS (9 + 23) (zz_c_tab (by decide)) rfl rfl hl rfl (Nat.le_of_ble_eq_true rfl) dX8_aim_64 ⟨Nat.zero_le _, Nat.zero_le _⟩ (fun H locs hP hS => ?_)
          refine lv_topi (fun w1 e1 => ?_)
          replace hf := zz_vi hf e1
          refine lv_istore (lv' := [(4, .int w1), (0, .ref (q 0)), (1, .int v1), (2, .int v2), (3, .int v3)]) hx hb dX8_aim_67 hl (by decide) rfl (fun ls hl => ?_)
          refine lv_aload_n hx hb dX8_aim_69 rfl (lv_at hl 1 rfl) ?_
          refine zz_getf C zi_X8_aim_X8 hP 0 rfl rfl 8 (nm := "aims") (ds := "LThirteenthDay$Table;") (fin := true) rfl (by decide) zk_X8_aim_66 rfl dX8_aim_70 ?_
          refine lv_iload_n hx hb dX8_aim_73 rfl (lv_at hl 2 rfl) ?_
          refine lv_iload_n hx hb dX8_aim_74 rfl (lv_at hl 3 rfl) ?_
          refine lv_iload_n hx hb dX8_aim_75 rfl (lv_at hl 4 rfl) ?_
          obtain ⟨st2, e3, hf⟩ := zz_vo hf
          refine zz_callVv C (As := [.int v1, .int v2, .int v3]) (rest := []) (zz_Mv_e e3 (zc_X5_set 23 (by decide) _ _ _ _)) (cwV 3 hts gX8_aim_X5_set rfl rfl rfl zd_X5_set ⟨Nat.le_of_ble_eq_true rfl, Nat.le_of_ble_eq_true rfl⟩) hP hS (9 + 23) (zz_c_tab (by decide)) rfl rfl hl rfl (Nat.le_of_ble_eq_true rfl) dX8_aim_76 ⟨Nat.zero_le _, Nat.zero_le _⟩ (fun H locs hP hS => ?_)
          refine lv_iload hx hb dX8_aim_79 (lv_at hl 0 rfl) ?_
          rw [← (Option.some.inj hf)]
          exact zz_reti C hr hP hS dX8_aim_81
        · rw [zz_if1 (zz_b1 h)] at hf
          cases hf
      · rw [zz_if0 (zz_b0 h)] at hf
        cases hf
    · rw [if_neg h] at hf
      cases hf
/-! X8_beginDay PW -/
theorem zd_X8_beginDay : yX8_beginDay.cls = RX8 ∧ yX8_beginDay.cls ≠ "java/lang/invoke/MethodHandle" ∧ yX8_beginDay.cls ≠ "java/lang/invoke/VarHandle" ∧ (parseMethodDescriptor yX8_beginDay.desc).map (fun d => d.parameters.length) = some 0 := by decide +kernel
abbrev zr_X8_beginDay : Room := { frames := 3, cells := 0, slots := 0, locals := 76 }
theorem zk_X8_beginDay_57 : Cond.fieldLink yX8_beginDay.cls 57 RX8 "foes" "LThirteenthDay$Foes;" ∈ wsX8_beginDay := by decide +kernel
theorem zk_X8_beginDay_50 : Cond.fieldLink yX8_beginDay.cls 50 RX8 "sectors" "LThirteenthDay$Sectors;" ∈ wsX8_beginDay := by decide +kernel
theorem zk_X8_beginDay_19 : Cond.fieldLink yX8_beginDay.cls 19 RX8 "units" "LThirteenthDay$Units;" ∈ wsX8_beginDay := by decide +kernel
theorem zi_X8_beginDay_X8 : ∀ w ∈ u_ws RX8 TX8 11, w ∈ wsX8_beginDay := by decide +kernel
def zX8_beginDay_2 : Nat → Int32 → zz_T → Option zz_T
  | 0, _, _ => none
  | n + 1, v1, st =>
    if 3 ≤ v1 then
      some st
    else
      (zX0_come v1 (zX8_day st) st).bind fun x1 =>
      if (zX3_get v1 11 x1.2) = 0 then
        (zX7_countAt v1 true x1.2).bind fun x3 =>
        (zX7_countAt v1 false x1.2).bind fun x5 =>
        zz_v (x5 - x3) fun w7 =>
        zz_v (zX3_add v1 4 x1.1 x1.2) fun st8 =>
        zz_v (zX3_feed v1 x3 w7 st8) fun st10 =>
        (zX7_weightAt v1 st10).bind fun x12 =>
        zz_v (zX3_fight v1 x12 st10) fun st14 =>
        zX8_beginDay_2 n (v1 + 1) st14
      else
        zX8_beginDay_2 n (v1 + 1) x1.2
set_option maxHeartbeats 4000000 in
set_option maxRecDepth 100000 in
theorem zt_X8_beginDay_2 {l : Launch} {A : Nat → Prop} {D : va_G} {cI : ClassId} {q : Nat → Nat} {p : Program} {e : Env} {s : State} {m : MethodId} {args : Array Value} {below : List Frame} {meth : Method} {c : Code} (C : zz_C A D cI q p s m args meth c cX8_beginDay 5 wsX8_beginDay yX8_beginDay.cls) (hr : meth.sig.returnType = none) : ∀ (n : Nat) (v1 : Int32) (st : zz_T) (H : Heap) (locs : List Loc) (ls : Array Slot) (r : zz_T), zX8_beginDay_2 n v1 st = some r → va_P D vwCl (zz_c q cI st) H → va_S A s.heap H locs → lv_has ls 5 [(0, .ref (q 0)), (1, .int v1)] → W p l e zr_X8_beginDay s m args below meth c H locs 0 0 (zz_Qv A D cI q r below args s) (F0 m 2 ls []) := by
  obtain ⟨hx, hb, hml, hown, hts⟩ := id C.1
  intro n
  induction n with
  | zero => intro v1 st H locs ls r hf; cases hf
  | succ n ih =>
    intro v1 st H locs ls r hf hP hS hl
    rw [zX8_beginDay_2] at hf
    refine lv_iload_n hx hb dX8_beginDay_2 rfl (lv_at hl 1 rfl) ?_
    refine lv_iconst (v := 3) hx hb dX8_beginDay_3 (by decide) ?_
    refine lv_icmp_ge (tgt := 99) hx hb dX8_beginDay_4 (by decide) (fun h => ?_) (fun h => ?_)
    · rw [if_pos h] at hf
      rw [← (Option.some.inj hf)]
      exact zz_retv C hr hP hS dX8_beginDay_99
    · rw [if_neg h] at hf
      refine lv_aload_n hx hb dX8_beginDay_7 rfl (lv_at hl 0 rfl) ?_
      refine zz_getf C zi_X8_beginDay_X8 hP 0 rfl rfl 7 (nm := "foes") (ds := "LThirteenthDay$Foes;") (fin := true) rfl (by decide) zk_X8_beginDay_57 rfl dX8_beginDay_8 ?_
      refine lv_iload_n hx hb dX8_beginDay_11 rfl (lv_at hl 1 rfl) ?_
      refine lv_aload_n hx hb dX8_beginDay_12 rfl (lv_at hl 0 rfl) ?_
      refine zz_callVi C (As := []) (rest := [.int v1, .ref (q 8)]) (zc_X8_day _) (cwV 0 hts gX8_beginDay_X8_day rfl rfl rfl zd_X8_day ⟨Nat.le_of_ble_eq_true rfl, Nat.le_of_ble_eq_true rfl⟩) hP hS 0 rfl rfl rfl hl rfl (Nat.le_of_ble_eq_true rfl) dX8_beginDay_13 ⟨Nat.zero_le _, Nat.zero_le _⟩ (fun H locs hP hS => ?_)
      obtain ⟨x1, e2, hf⟩ := zz_bo hf
      refine zz_callVi C (As := [.int v1, .int (zX8_day st)]) (rest := []) (zc_X0_come _ _ _ _ e2) (cwV 2 hts gX8_beginDay_X0_come rfl rfl rfl zd_X0_come ⟨Nat.le_of_ble_eq_true rfl, Nat.le_of_ble_eq_true rfl⟩) hP hS 8 rfl rfl rfl hl rfl (Nat.le_of_ble_eq_true rfl) dX8_beginDay_16 ⟨Nat.zero_le _, Nat.zero_le _⟩ (fun H locs hP hS => ?_)
      refine lv_istore_n (lv' := [(2, .int x1.1), (0, .ref (q 0)), (1, .int v1)]) hx hb dX8_beginDay_19 rfl hl (by decide) rfl (fun ls hl => ?_)
      refine lv_aload_n hx hb dX8_beginDay_20 rfl (lv_at hl 1 rfl) ?_
      refine zz_getf C zi_X8_beginDay_X8 hP 0 rfl rfl 6 (nm := "sectors") (ds := "LThirteenthDay$Sectors;") (fin := true) rfl (by decide) zk_X8_beginDay_50 rfl dX8_beginDay_21 ?_
      refine lv_iload_n hx hb dX8_beginDay_24 rfl (lv_at hl 2 rfl) ?_
      refine lv_bipush (v := 11) hx hb dX8_beginDay_25 (by decide) ?_
      refine zz_callVi C (As := [.int v1, .int 11]) (rest := []) (zc_X3_get _ _ _) (cwV 2 hts gX8_beginDay_X3_get rfl rfl rfl zd_X3_get ⟨Nat.le_of_ble_eq_true rfl, Nat.le_of_ble_eq_true rfl⟩) hP hS 7 rfl rfl rfl hl rfl (Nat.le_of_ble_eq_true rfl) dX8_beginDay_27 ⟨Nat.zero_le _, Nat.zero_le _⟩ (fun H locs hP hS => ?_)
      refine lv_if_ne (tgt := 93) hx hb dX8_beginDay_30 (by decide) (fun h => ?_) (fun h => ?_)
      · rw [if_neg h] at hf
        refine lv_iinc (v := (v1 + 1)) (lv' := [(1, .int (v1 + 1)), (2, .int x1.1), (0, .ref (q 0))]) hx hb dX8_beginDay_93 hl (k := 2) rfl (congrArg (fun z => v1 + z) (by decide)) (by decide) rfl (fun ls hl => ?_)
        refine lv_goto (tgt := 2) hx hb dX8_beginDay_96 (by decide) ?_
        exact ih _ _ _ _ _ _ hf hP hS (lv_sub hl [2, 0] rfl)
      · rw [if_pos h] at hf
        refine lv_aload_n hx hb dX8_beginDay_33 rfl (lv_at hl 1 rfl) ?_
        refine zz_getf C zi_X8_beginDay_X8 hP 0 rfl rfl 1 (nm := "units") (ds := "LThirteenthDay$Units;") (fin := true) rfl (by decide) zk_X8_beginDay_19 rfl dX8_beginDay_34 ?_
        refine lv_iload_n hx hb dX8_beginDay_37 rfl (lv_at hl 2 rfl) ?_
        refine lv_iconst (v := 1) hx hb dX8_beginDay_38 (by decide) ?_
        obtain ⟨x3, e4, hf⟩ := zz_bo hf
        refine zz_callVi C (As := [.int v1, .int 1]) (rest := []) (zc_X7_countAt _ true _ _ e4) (cwV 2 hts gX8_beginDay_X7_countAt rfl rfl rfl zd_X7_countAt ⟨Nat.le_of_ble_eq_true rfl, Nat.le_of_ble_eq_true rfl⟩) hP hS 2 rfl rfl rfl hl rfl (Nat.le_of_ble_eq_true rfl) dX8_beginDay_39 ⟨Nat.zero_le _, Nat.zero_le _⟩ (fun H locs hP hS => ?_)
        refine lv_istore_n (lv' := [(3, .int x3), (2, .int x1.1), (0, .ref (q 0)), (1, .int v1)]) hx hb dX8_beginDay_42 rfl hl (by decide) rfl (fun ls hl => ?_)
        refine lv_aload_n hx hb dX8_beginDay_43 rfl (lv_at hl 2 rfl) ?_
        refine zz_getf C zi_X8_beginDay_X8 hP 0 rfl rfl 1 (nm := "units") (ds := "LThirteenthDay$Units;") (fin := true) rfl (by decide) zk_X8_beginDay_19 rfl dX8_beginDay_44 ?_
        refine lv_iload_n hx hb dX8_beginDay_47 rfl (lv_at hl 3 rfl) ?_
        refine lv_iconst (v := 0) hx hb dX8_beginDay_48 (by decide) ?_
        obtain ⟨x5, e6, hf⟩ := zz_bo hf
        refine zz_callVi C (As := [.int v1, .int 0]) (rest := []) (zc_X7_countAt _ false _ _ e6) (cwV 2 hts gX8_beginDay_X7_countAt rfl rfl rfl zd_X7_countAt ⟨Nat.le_of_ble_eq_true rfl, Nat.le_of_ble_eq_true rfl⟩) hP hS 2 rfl rfl rfl hl rfl (Nat.le_of_ble_eq_true rfl) dX8_beginDay_49 ⟨Nat.zero_le _, Nat.zero_le _⟩ (fun H locs hP hS => ?_)
        refine lv_iload_n hx hb dX8_beginDay_52 rfl (lv_at hl 0 rfl) ?_
        refine lv_isub hx hb dX8_beginDay_53 ?_
        refine lv_topi (fun w7 e7 => ?_)
        replace hf := zz_vi hf e7
        refine lv_istore (lv' := [(4, .int w7), (3, .int x3), (2, .int x1.1), (0, .ref (q 0)), (1, .int v1)]) hx hb dX8_beginDay_54 hl (by decide) rfl (fun ls hl => ?_)
        refine lv_aload_n hx hb dX8_beginDay_56 rfl (lv_at hl 3 rfl) ?_
        refine zz_getf C zi_X8_beginDay_X8 hP 0 rfl rfl 6 (nm := "sectors") (ds := "LThirteenthDay$Sectors;") (fin := true) rfl (by decide) zk_X8_beginDay_50 rfl dX8_beginDay_57 ?_
        refine lv_iload_n hx hb dX8_beginDay_60 rfl (lv_at hl 4 rfl) ?_
        refine lv_iconst (v := 4) hx hb dX8_beginDay_61 (by decide) ?_
        refine lv_iload_n hx hb dX8_beginDay_62 rfl (lv_at hl 2 rfl) ?_
        obtain ⟨st8, e9, hf⟩ := zz_vo hf
        refine zz_callVv C (As := [.int v1, .int 4, .int x1.1]) (rest := []) (zz_Mv_e e9 (zc_X3_add _ _ _ _)) (cwV 3 hts gX8_beginDay_X3_add rfl rfl rfl zd_X3_add ⟨Nat.le_of_ble_eq_true rfl, Nat.le_of_ble_eq_true rfl⟩) hP hS 7 rfl rfl rfl hl rfl (Nat.le_of_ble_eq_true rfl) dX8_beginDay_63 ⟨Nat.zero_le _, Nat.zero_le _⟩ (fun H locs hP hS => ?_)
        refine lv_aload_n hx hb dX8_beginDay_66 rfl (lv_at hl 3 rfl) ?_
        refine zz_getf C zi_X8_beginDay_X8 hP 0 rfl rfl 6 (nm := "sectors") (ds := "LThirteenthDay$Sectors;") (fin := true) rfl (by decide) zk_X8_beginDay_50 rfl dX8_beginDay_67 ?_
        refine lv_iload_n hx hb dX8_beginDay_70 rfl (lv_at hl 4 rfl) ?_
        refine lv_iload_n hx hb dX8_beginDay_71 rfl (lv_at hl 1 rfl) ?_
        refine lv_iload hx hb dX8_beginDay_72 (lv_at hl 0 rfl) ?_
        obtain ⟨st10, e11, hf⟩ := zz_vo hf
        refine zz_callVv C (As := [.int v1, .int x3, .int w7]) (rest := []) (zz_Mv_e e11 (zc_X3_feed _ _ _ _)) (cwV 3 hts gX8_beginDay_X3_feed rfl rfl rfl zd_X3_feed ⟨Nat.le_of_ble_eq_true rfl, Nat.le_of_ble_eq_true rfl⟩) hP hS 7 rfl rfl rfl hl rfl (Nat.le_of_ble_eq_true rfl) dX8_beginDay_74 ⟨Nat.zero_le _, Nat.zero_le _⟩ (fun H locs hP hS => ?_)
        refine lv_aload_n hx hb dX8_beginDay_77 rfl (lv_at hl 3 rfl) ?_
        refine zz_getf C zi_X8_beginDay_X8 hP 0 rfl rfl 6 (nm := "sectors") (ds := "LThirteenthDay$Sectors;") (fin := true) rfl (by decide) zk_X8_beginDay_50 rfl dX8_beginDay_78 ?_
        refine lv_iload_n hx hb dX8_beginDay_81 rfl (lv_at hl 4 rfl) ?_
        refine lv_aload_n hx hb dX8_beginDay_82 rfl (lv_at hl 3 rfl) ?_
        refine zz_getf C zi_X8_beginDay_X8 hP 0 rfl rfl 1 (nm := "units") (ds := "LThirteenthDay$Units;") (fin := true) rfl (by decide) zk_X8_beginDay_19 rfl dX8_beginDay_83 ?_
        refine lv_iload_n hx hb dX8_beginDay_86 rfl (lv_at hl 4 rfl) ?_
        obtain ⟨x12, e13, hf⟩ := zz_bo hf
        refine zz_callVi C (As := [.int v1]) (rest := [.int v1, .ref (q 7)]) (zc_X7_weightAt _ _ _ e13) (cwV 1 hts gX8_beginDay_X7_weightAt rfl rfl rfl zd_X7_weightAt ⟨Nat.le_of_ble_eq_true rfl, Nat.le_of_ble_eq_true rfl⟩) hP hS 2 rfl rfl rfl hl rfl (Nat.le_of_ble_eq_true rfl) dX8_beginDay_87 ⟨Nat.zero_le _, Nat.zero_le _⟩ (fun H locs hP hS => ?_)
        obtain ⟨st14, e15, hf⟩ := zz_vo hf
        refine zz_callVv C (As := [.int v1, .int x12]) (rest := []) (zz_Mv_e e15 (zc_X3_fight _ _ _)) (cwV 2 hts gX8_beginDay_X3_fight rfl rfl rfl zd_X3_fight ⟨Nat.le_of_ble_eq_true rfl, Nat.le_of_ble_eq_true rfl⟩) hP hS 7 rfl rfl rfl hl rfl (Nat.le_of_ble_eq_true rfl) dX8_beginDay_90 ⟨Nat.zero_le _, Nat.zero_le _⟩ (fun H locs hP hS => ?_)
        refine lv_iinc (v := (v1 + 1)) (lv' := [(1, .int (v1 + 1)), (4, .int w7), (3, .int x3), (2, .int x1.1), (0, .ref (q 0))]) hx hb dX8_beginDay_93 hl (k := 4) rfl (congrArg (fun z => v1 + z) (by decide)) (by decide) rfl (fun ls hl => ?_)
        refine lv_goto (tgt := 2) hx hb dX8_beginDay_96 (by decide) ?_
        exact ih _ _ _ _ _ _ hf hP hS (lv_sub hl [4, 0] rfl)
def zX8_beginDay (st : zz_T) : Option zz_T :=
  zX8_beginDay_2 zz_N 0 st
set_option maxHeartbeats 4000000 in
set_option maxRecDepth 100000 in
theorem zc_X8_beginDay {l : Launch} {A : Nat → Prop} {D : va_G} {cI : ClassId} {q : Nat → Nat} (st : zz_T) (r : zz_T) (hf : zX8_beginDay st = some r) : zz_Mv l A D cI q yX8_beginDay wsX8_beginDay zr_X8_beginDay [.ref (q 0)] st r := by
  refine zz_of (cc := cX8_beginDay) (nL := 5) (ret := none) (by decide) rfl (Nat.le_of_ble_eq_true rfl) ?_
  intro p e s m args below meth c ls C hr hP hS hl
  obtain ⟨hx, hb, hml, hown, hts⟩ := id C.1
  have hl : lv_has ls 5 [(0, .ref (q 0))] := hl
  rw [zX8_beginDay] at hf
  skip
  refine lv_iconst (v := 0) hx hb dX8_beginDay_0 (by decide) ?_
  refine lv_istore_n (lv' := [(1, .int 0), (0, .ref (q 0))]) hx hb dX8_beginDay_1 rfl hl (by decide) rfl (fun ls hl => ?_)
  exact zt_X8_beginDay_2 C hr zz_N _ _ _ _ _ _ hf hP hS (lv_sub hl [1, 0] rfl)
/-! X8_box PW -/
theorem zd_X8_box : yX8_box.cls = RX8 ∧ yX8_box.cls ≠ "java/lang/invoke/MethodHandle" ∧ yX8_box.cls ≠ "java/lang/invoke/VarHandle" ∧ (parseMethodDescriptor yX8_box.desc).map (fun d => d.parameters.length) = some 2 := by decide +kernel
abbrev zr_X8_box : Room := { frames := 2, cells := 0, slots := 0, locals := 47 }
theorem zk_X8_box_36 : Cond.fieldLink yX8_box.cls 36 RX8 "trains" "LThirteenthDay$Trains;" ∈ wsX8_box := by decide +kernel
theorem zk_X8_box_70 : Cond.fieldLink yX8_box.cls 70 RX8 "tick" "I" ∈ wsX8_box := by decide +kernel
theorem zi_X8_box_X8 : ∀ w ∈ u_ws RX8 TX8 11, w ∈ wsX8_box := by decide +kernel
def zX8_box_74 (v1 : Int32) (v2 : Int32) (v3 : Int32) (st : zz_T) : Option (Int32 × zz_T) :=
  if v3 = 1 then
    zz_v (zX6_add v1 5 v2 st) fun st4 =>
    some ((zX6_lateOf v1 (st4.2 0) st4), st4)
  else
    zz_v (zX6_add v1 6 v2 st) fun st2 =>
    some ((zX6_lateOf v1 (st2.2 0) st2), st2)
set_option maxHeartbeats 4000000 in
set_option maxRecDepth 100000 in
theorem zt_X8_box_74 {l : Launch} {A : Nat → Prop} {D : va_G} {cI : ClassId} {q : Nat → Nat} {p : Program} {e : Env} {s : State} {m : MethodId} {args : Array Value} {below : List Frame} {meth : Method} {c : Code} (C : zz_C A D cI q p s m args meth c cX8_box 4 wsX8_box yX8_box.cls) (hr : meth.sig.returnType = some .int) : ∀ (v1 : Int32) (v2 : Int32) (v3 : Int32) (st : zz_T) (H : Heap) (locs : List Loc) (ls : Array Slot) (r : (Int32 × zz_T)), zX8_box_74 v1 v2 v3 st = some r → va_P D vwCl (zz_c q cI st) H → va_S A s.heap H locs → lv_has ls 4 [(0, .ref (q 0)), (1, .int v1), (2, .int v2), (3, .int v3)] → W p l e zr_X8_box s m args below meth c H locs 0 0 (zz_Qi A D cI q r.1 r.2 below args s) (F0 m 74 ls []) := by
  obtain ⟨hx, hb, hml, hown, hts⟩ := id C.1
  intro v1 v2 v3 st H locs ls r hf hP hS hl
  rw [zX8_box_74] at hf
  refine lv_aload_n hx hb dX8_box_74 rfl (lv_at hl 0 rfl) ?_
  refine zz_getf C zi_X8_box_X8 hP 0 rfl rfl 4 (nm := "trains") (ds := "LThirteenthDay$Trains;") (fin := true) rfl (by decide) zk_X8_box_36 rfl dX8_box_75 ?_
  refine lv_iload_n hx hb dX8_box_78 rfl (lv_at hl 1 rfl) ?_
  refine lv_iload_n hx hb dX8_box_79 rfl (lv_at hl 3 rfl) ?_
  refine lv_iconst (v := 1) hx hb dX8_box_80 (by decide) ?_
  refine lv_icmp_ne (tgt := 88) hx hb dX8_box_81 (by decide) (fun h => ?_) (fun h => ?_)
  · rw [if_neg h] at hf
    refine lv_bipush (v := 6) hx hb dX8_box_88 (by decide) ?_
    refine lv_iload_n hx hb dX8_box_90 rfl (lv_at hl 2 rfl) ?_
    obtain ⟨st2, e3, hf⟩ := zz_vo hf
    refine zz_callVv C (As := [.int v1, .int 6, .int v2]) (rest := []) (zz_Mv_e e3 (zc_X6_add _ _ _ _)) (cwV 3 hts gX8_box_X6_add rfl rfl rfl zd_X6_add ⟨Nat.le_of_ble_eq_true rfl, Nat.le_of_ble_eq_true rfl⟩) hP hS 5 rfl rfl rfl hl rfl (Nat.le_of_ble_eq_true rfl) dX8_box_91 ⟨Nat.zero_le _, Nat.zero_le _⟩ (fun H locs hP hS => ?_)
    refine lv_aload_n hx hb dX8_box_94 rfl (lv_at hl 0 rfl) ?_
    refine zz_getf C zi_X8_box_X8 hP 0 rfl rfl 4 (nm := "trains") (ds := "LThirteenthDay$Trains;") (fin := true) rfl (by decide) zk_X8_box_36 rfl dX8_box_95 ?_
    refine lv_iload_n hx hb dX8_box_98 rfl (lv_at hl 1 rfl) ?_
    refine lv_aload_n hx hb dX8_box_99 rfl (lv_at hl 0 rfl) ?_
    refine zz_getf C zi_X8_box_X8 hP 0 rfl rfl 9 (nm := "tick") (ds := "I") (fin := false) rfl (by decide) zk_X8_box_70 rfl dX8_box_100 ?_
    refine zz_callVi C (As := [.int v1, .int (st2.2 0)]) (rest := []) (zc_X6_lateOf _ _ _) (cwV 2 hts gX8_box_X6_lateOf rfl rfl rfl zd_X6_lateOf ⟨Nat.le_of_ble_eq_true rfl, Nat.le_of_ble_eq_true rfl⟩) hP hS 5 rfl rfl rfl hl rfl (Nat.le_of_ble_eq_true rfl) dX8_box_103 ⟨Nat.zero_le _, Nat.zero_le _⟩ (fun H locs hP hS => ?_)
    rw [← (Option.some.inj hf)]
    exact zz_reti C hr hP hS dX8_box_106
  · rw [if_pos h] at hf
    refine lv_iconst (v := 5) hx hb dX8_box_84 (by decide) ?_
    refine lv_goto (tgt := 90) hx hb dX8_box_85 (by decide) ?_
    refine lv_iload_n hx hb dX8_box_90 rfl (lv_at hl 2 rfl) ?_
    obtain ⟨st4, e5, hf⟩ := zz_vo hf
    refine zz_callVv C (As := [.int v1, .int 5, .int v2]) (rest := []) (zz_Mv_e e5 (zc_X6_add _ _ _ _)) (cwV 3 hts gX8_box_X6_add rfl rfl rfl zd_X6_add ⟨Nat.le_of_ble_eq_true rfl, Nat.le_of_ble_eq_true rfl⟩) hP hS 5 rfl rfl rfl hl rfl (Nat.le_of_ble_eq_true rfl) dX8_box_91 ⟨Nat.zero_le _, Nat.zero_le _⟩ (fun H locs hP hS => ?_)
    refine lv_aload_n hx hb dX8_box_94 rfl (lv_at hl 0 rfl) ?_
    refine zz_getf C zi_X8_box_X8 hP 0 rfl rfl 4 (nm := "trains") (ds := "LThirteenthDay$Trains;") (fin := true) rfl (by decide) zk_X8_box_36 rfl dX8_box_95 ?_
    refine lv_iload_n hx hb dX8_box_98 rfl (lv_at hl 1 rfl) ?_
    refine lv_aload_n hx hb dX8_box_99 rfl (lv_at hl 0 rfl) ?_
    refine zz_getf C zi_X8_box_X8 hP 0 rfl rfl 9 (nm := "tick") (ds := "I") (fin := false) rfl (by decide) zk_X8_box_70 rfl dX8_box_100 ?_
    refine zz_callVi C (As := [.int v1, .int (st4.2 0)]) (rest := []) (zc_X6_lateOf _ _ _) (cwV 2 hts gX8_box_X6_lateOf rfl rfl rfl zd_X6_lateOf ⟨Nat.le_of_ble_eq_true rfl, Nat.le_of_ble_eq_true rfl⟩) hP hS 5 rfl rfl rfl hl rfl (Nat.le_of_ble_eq_true rfl) dX8_box_103 ⟨Nat.zero_le _, Nat.zero_le _⟩ (fun H locs hP hS => ?_)
    rw [← (Option.some.inj hf)]
    exact zz_reti C hr hP hS dX8_box_106
def zX8_box (v1 : Int32) (v2 : Int32) (st : zz_T) : Option (Int32 × zz_T) :=
  if (zX6_has v1 st) = true then
    if v2 < 1 then
      none
    else
      if v2 ≤ 72 then
        zz_v (zX6_get v1 2 st) fun w1 =>
        if w1 = 0 then
          zX8_box_74 v1 v2 w1 st
        else
          if w1 = 1 then
            zX8_box_74 v1 v2 w1 st
          else
            none
      else
        none
  else
    none
set_option maxHeartbeats 4000000 in
set_option maxRecDepth 100000 in
theorem zc_X8_box {l : Launch} {A : Nat → Prop} {D : va_G} {cI : ClassId} {q : Nat → Nat} (v1 : Int32) (v2 : Int32) (st : zz_T) (r : (Int32 × zz_T)) (hf : zX8_box v1 v2 st = some r) : zz_Mi l A D cI q yX8_box wsX8_box zr_X8_box [.ref (q 0), .int v1, .int v2] st r.1 r.2 := by
  refine zz_of (cc := cX8_box) (nL := 4) (ret := some .int) (by decide) rfl (Nat.le_of_ble_eq_true rfl) ?_
  intro p e s m args below meth c ls C hr hP hS hl
  obtain ⟨hx, hb, hml, hown, hts⟩ := id C.1
  have hl : lv_has ls 4 [(0, .ref (q 0)), (1, .int v1), (2, .int v2)] := hl
  rw [zX8_box] at hf
  skip
  refine lv_aload_n hx hb dX8_box_0 rfl (lv_at hl 0 rfl) ?_
  refine zz_getf C zi_X8_box_X8 hP 0 rfl rfl 4 (nm := "trains") (ds := "LThirteenthDay$Trains;") (fin := true) rfl (by decide) zk_X8_box_36 rfl dX8_box_1 ?_
  refine lv_iload_n hx hb dX8_box_4 rfl (lv_at hl 1 rfl) ?_
  refine zz_callVi C (As := [.int v1]) (rest := []) (zc_X6_has _ _) (cwV 1 hts gX8_box_X6_has rfl rfl rfl zd_X6_has ⟨Nat.le_of_ble_eq_true rfl, Nat.le_of_ble_eq_true rfl⟩) hP hS 5 rfl rfl rfl hl rfl (Nat.le_of_ble_eq_true rfl) dX8_box_5 ⟨Nat.zero_le _, Nat.zero_le _⟩ (fun H locs hP hS => ?_)
  refine lv_if_ne (tgt := 22) hx hb dX8_box_8 (by decide) (fun h => ?_) (fun h => ?_)
  · rw [zz_if1 (zz_b1 h)] at hf
    refine lv_iload_n hx hb dX8_box_22 rfl (lv_at hl 2 rfl) ?_
    refine lv_iconst (v := 1) hx hb dX8_box_23 (by decide) ?_
    refine lv_icmp_lt (tgt := 33) hx hb dX8_box_24 (by decide) (fun h => ?_) (fun h => ?_)
    · rw [if_pos h] at hf
      cases hf
    · rw [if_neg h] at hf
      refine lv_iload_n hx hb dX8_box_27 rfl (lv_at hl 2 rfl) ?_
      refine lv_bipush (v := 72) hx hb dX8_box_28 (by decide) ?_
      refine lv_icmp_le (tgt := 44) hx hb dX8_box_30 (by decide) (fun h => ?_) (fun h => ?_)
      · rw [if_pos h] at hf
        refine lv_aload_n hx hb dX8_box_44 rfl (lv_at hl 0 rfl) ?_
        refine zz_getf C zi_X8_box_X8 hP 0 rfl rfl 4 (nm := "trains") (ds := "LThirteenthDay$Trains;") (fin := true) rfl (by decide) zk_X8_box_36 rfl dX8_box_45 ?_
        refine lv_iload_n hx hb dX8_box_48 rfl (lv_at hl 1 rfl) ?_
        refine lv_iconst (v := 2) hx hb dX8_box_49 (by decide) ?_
        refine zz_callVi C (As := [.int v1, .int 2]) (rest := []) (zc_X6_get _ _ _) (cwV 2 hts gX8_box_X6_get rfl rfl rfl zd_X6_get ⟨Nat.le_of_ble_eq_true rfl, Nat.le_of_ble_eq_true rfl⟩) hP hS 5 rfl rfl rfl hl rfl (Nat.le_of_ble_eq_true rfl) dX8_box_50 ⟨Nat.zero_le _, Nat.zero_le _⟩ (fun H locs hP hS => ?_)
        refine lv_topi (fun w1 e1 => ?_)
        replace hf := zz_vi hf e1
        refine lv_istore_n (lv' := [(3, .int w1), (0, .ref (q 0)), (1, .int v1), (2, .int v2)]) hx hb dX8_box_53 rfl hl (by decide) rfl (fun ls hl => ?_)
        refine lv_iload_n hx hb dX8_box_54 rfl (lv_at hl 0 rfl) ?_
        refine lv_if_eq (tgt := 74) hx hb dX8_box_55 (by decide) (fun h => ?_) (fun h => ?_)
        · rw [if_pos h] at hf
          exact zt_X8_box_74 C hr _ _ _ _ _ _ _ _ hf hP hS (lv_sub hl [1, 2, 3, 0] rfl)
        · rw [if_neg h] at hf
          refine lv_iload_n hx hb dX8_box_58 rfl (lv_at hl 0 rfl) ?_
          refine lv_iconst (v := 1) hx hb dX8_box_59 (by decide) ?_
          refine lv_icmp_eq (tgt := 74) hx hb dX8_box_60 (by decide) (fun h => ?_) (fun h => ?_)
          · rw [if_pos h] at hf
            exact zt_X8_box_74 C hr _ _ _ _ _ _ _ _ hf hP hS (lv_sub hl [1, 2, 3, 0] rfl)
          · rw [if_neg h] at hf
            cases hf
      · rw [if_neg h] at hf
        cases hf
  · rw [zz_if0 (zz_b0 h)] at hf
    cases hf
