/-! X8_nextTick PW -/
theorem zd_X8_nextTick : yX8_nextTick.cls = RX8 ∧ yX8_nextTick.cls ≠ "java/lang/invoke/MethodHandle" ∧ yX8_nextTick.cls ≠ "java/lang/invoke/VarHandle" ∧ (parseMethodDescriptor yX8_nextTick.desc).map (fun d => d.parameters.length) = some 0 := by decide +kernel
abbrev zr_X8_nextTick : Room := { frames := 5, cells := 0, slots := 0, locals := 123 }
theorem zk_X8_nextTick_70 : Cond.fieldLink yX8_nextTick.cls 70 RX8 "tick" "I" ∈ wsX8_nextTick := by decide +kernel
theorem zk_X8_nextTick_10 : Cond.fieldLink yX8_nextTick.cls 10 RX8 "land" "LThirteenthDay$Land;" ∈ wsX8_nextTick := by decide +kernel
theorem zk_X8_nextTick_19 : Cond.fieldLink yX8_nextTick.cls 19 RX8 "units" "LThirteenthDay$Units;" ∈ wsX8_nextTick := by decide +kernel
theorem zk_X8_nextTick_36 : Cond.fieldLink yX8_nextTick.cls 36 RX8 "trains" "LThirteenthDay$Trains;" ∈ wsX8_nextTick := by decide +kernel
theorem zi_X8_nextTick_X8 : ∀ w ∈ u_ws RX8 TX8 11, w ∈ wsX8_nextTick := by decide +kernel
def zX8_nextTick_111 : Nat → Int32 → Int32 → zz_T → Option zz_T
  | 0, _, _, _ => none
  | n + 1, v1, v2, st =>
    if v1 ≤ v2 then
      some st
    else
      zz_v (zX6_inPlace v2 st) fun w19 =>
      (zX6_waitOf w19 st).bind fun x20 =>
      zz_v (zX6_move w19 x20 st) fun p22 =>
      if p22.1 = true then
        zz_v (zX8_finish w19 p22.2) fun st24 =>
        zX8_nextTick_111 n v1 (v2 + 1) st24
      else
        zX8_nextTick_111 n v1 (v2 + 1) p22.2
set_option maxHeartbeats 4000000 in
set_option maxRecDepth 100000 in
theorem zt_X8_nextTick_111 {l : Launch} {A : Nat → Prop} {D : va_G} {cI : ClassId} {q : Nat → Nat} {p : Program} {e : Env} {s : State} {m : MethodId} {args : Array Value} {below : List Frame} {meth : Method} {c : Code} (C : zz_C A D cI q p s m args meth c cX8_nextTick 5 wsX8_nextTick yX8_nextTick.cls) (hr : meth.sig.returnType = none) : ∀ (n : Nat) (v1 : Int32) (v2 : Int32) (st : zz_T) (H : Heap) (locs : List Loc) (ls : Array Slot) (r : zz_T), zX8_nextTick_111 n v1 v2 st = some r → va_P D vwCl (zz_c q cI st) H → va_S A s.heap H locs → lv_has ls 5 [(0, .ref (q 0)), (1, .int v1), (2, .int v2)] → W p l e zr_X8_nextTick s m args below meth c H locs 0 0 (zz_Qv A D cI q r below args s) (F0 m 111 ls []) := by
  obtain ⟨hx, hb, hml, hown, hts⟩ := id C.1
  intro n
  induction n with
  | zero => intro v1 v2 st H locs ls r hf; cases hf
  | succ n ih =>
    intro v1 v2 st H locs ls r hf hP hS hl
    rw [zX8_nextTick_111] at hf
    refine lv_iload_n hx hb dX8_nextTick_111 rfl (lv_at hl 2 rfl) ?_
    refine lv_iload_n hx hb dX8_nextTick_112 rfl (lv_at hl 1 rfl) ?_
    refine lv_icmp_ge (tgt := 167) hx hb dX8_nextTick_113 (by decide) (fun h => ?_) (fun h => ?_)
    · rw [if_pos h] at hf
      rw [← (Option.some.inj hf)]
      exact zz_retv C hr hP hS dX8_nextTick_167
    · rw [if_neg h] at hf
      refine lv_aload_n hx hb dX8_nextTick_116 rfl (lv_at hl 0 rfl) ?_
      refine zz_getf C zi_X8_nextTick_X8 hP 0 rfl rfl 4 (nm := "trains") (ds := "LThirteenthDay$Trains;") (fin := true) rfl (by decide) zk_X8_nextTick_36 rfl dX8_nextTick_117 ?_
      refine lv_iload_n hx hb dX8_nextTick_120 rfl (lv_at hl 2 rfl) ?_
      refine zz_callVi C (As := [.int v2]) (rest := []) (zc_X6_inPlace _ _) (cwV 1 hts gX8_nextTick_X6_inPlace rfl rfl rfl zd_X6_inPlace ⟨Nat.le_of_ble_eq_true rfl, Nat.le_of_ble_eq_true rfl⟩) hP hS 5 rfl rfl rfl hl rfl (Nat.le_of_ble_eq_true rfl) dX8_nextTick_121 ⟨Nat.zero_le _, Nat.zero_le _⟩ (fun H locs hP hS => ?_)
      refine lv_topi (fun w19 e19 => ?_)
      replace hf := zz_vi hf e19
      refine lv_istore_n (lv' := [(3, .int w19), (0, .ref (q 0)), (1, .int v1), (2, .int v2)]) hx hb dX8_nextTick_124 rfl hl (by decide) rfl (fun ls hl => ?_)
      refine lv_aload_n hx hb dX8_nextTick_125 rfl (lv_at hl 1 rfl) ?_
      refine zz_getf C zi_X8_nextTick_X8 hP 0 rfl rfl 4 (nm := "trains") (ds := "LThirteenthDay$Trains;") (fin := true) rfl (by decide) zk_X8_nextTick_36 rfl dX8_nextTick_126 ?_
      refine lv_iload_n hx hb dX8_nextTick_129 rfl (lv_at hl 0 rfl) ?_
      refine lv_aload_n hx hb dX8_nextTick_130 rfl (lv_at hl 1 rfl) ?_
      refine zz_getf C zi_X8_nextTick_X8 hP 0 rfl rfl 0 (nm := "land") (ds := "LThirteenthDay$Land;") (fin := true) rfl (by decide) zk_X8_nextTick_10 rfl dX8_nextTick_131 ?_
      obtain ⟨x20, e21, hf⟩ := zz_bo hf
      refine zz_callVi C (As := [.int w19, .ref (q 1)]) (rest := []) (zc_X6_waitOf _ _ _ e21) (cwV 2 hts gX8_nextTick_X6_waitOf rfl rfl rfl zd_X6_waitOf ⟨Nat.le_of_ble_eq_true rfl, Nat.le_of_ble_eq_true rfl⟩) hP hS 5 rfl rfl rfl hl rfl (Nat.le_of_ble_eq_true rfl) dX8_nextTick_134 ⟨Nat.zero_le _, Nat.zero_le _⟩ (fun H locs hP hS => ?_)
      refine lv_istore (lv' := [(4, .int x20), (3, .int w19), (0, .ref (q 0)), (1, .int v1), (2, .int v2)]) hx hb dX8_nextTick_137 hl (by decide) rfl (fun ls hl => ?_)
      refine lv_aload_n hx hb dX8_nextTick_139 rfl (lv_at hl 2 rfl) ?_
      refine zz_getf C zi_X8_nextTick_X8 hP 0 rfl rfl 4 (nm := "trains") (ds := "LThirteenthDay$Trains;") (fin := true) rfl (by decide) zk_X8_nextTick_36 rfl dX8_nextTick_140 ?_
      refine lv_iload_n hx hb dX8_nextTick_143 rfl (lv_at hl 1 rfl) ?_
      refine lv_iload hx hb dX8_nextTick_144 (lv_at hl 0 rfl) ?_
      refine lv_aload_n hx hb dX8_nextTick_146 rfl (lv_at hl 2 rfl) ?_
      refine zz_getf C zi_X8_nextTick_X8 hP 0 rfl rfl 0 (nm := "land") (ds := "LThirteenthDay$Land;") (fin := true) rfl (by decide) zk_X8_nextTick_10 rfl dX8_nextTick_147 ?_
      obtain ⟨p22, e23, hf⟩ := zz_vo hf
      refine zz_callVi C (As := [.int w19, .int x20, .ref (q 1)]) (rest := []) (zz_Mz_e e23 (zc_X6_move _ _ _)) (cwV 3 hts gX8_nextTick_X6_move rfl rfl rfl zd_X6_move ⟨Nat.le_of_ble_eq_true rfl, Nat.le_of_ble_eq_true rfl⟩) hP hS 5 rfl rfl rfl hl rfl (Nat.le_of_ble_eq_true rfl) dX8_nextTick_150 ⟨Nat.zero_le _, Nat.zero_le _⟩ (fun H locs hP hS => ?_)
      refine lv_if_eq (tgt := 161) hx hb dX8_nextTick_153 (by decide) (fun h => ?_) (fun h => ?_)
      · rw [zz_if0 (zz_b0 h)] at hf
        refine lv_iinc (v := (v2 + 1)) (lv' := [(2, .int (v2 + 1)), (4, .int x20), (3, .int w19), (0, .ref (q 0)), (1, .int v1)]) hx hb dX8_nextTick_161 hl (k := 4) rfl (congrArg (fun z => v2 + z) (by decide)) (by decide) rfl (fun ls hl => ?_)
        refine lv_goto (tgt := 111) hx hb dX8_nextTick_164 (by decide) ?_
        exact ih _ _ _ _ _ _ _ hf hP hS (lv_sub hl [3, 4, 0] rfl)
      · rw [zz_if1 (zz_b1 h)] at hf
        refine lv_aload_n hx hb dX8_nextTick_156 rfl (lv_at hl 2 rfl) ?_
        refine lv_iload_n hx hb dX8_nextTick_157 rfl (lv_at hl 1 rfl) ?_
        obtain ⟨st24, e25, hf⟩ := zz_vo hf
        refine zz_callVv C (As := [.int w19]) (rest := []) (zz_Mv_e e25 (zc_X8_finish _ _)) (cwV 1 hts gX8_nextTick_X8_finish rfl rfl rfl zd_X8_finish ⟨Nat.le_of_ble_eq_true rfl, Nat.le_of_ble_eq_true rfl⟩) hP hS 0 rfl rfl rfl hl rfl (Nat.le_of_ble_eq_true rfl) dX8_nextTick_158 ⟨Nat.zero_le _, Nat.zero_le _⟩ (fun H locs hP hS => ?_)
        refine lv_iinc (v := (v2 + 1)) (lv' := [(2, .int (v2 + 1)), (4, .int x20), (3, .int w19), (0, .ref (q 0)), (1, .int v1)]) hx hb dX8_nextTick_161 hl (k := 4) rfl (congrArg (fun z => v2 + z) (by decide)) (by decide) rfl (fun ls hl => ?_)
        refine lv_goto (tgt := 111) hx hb dX8_nextTick_164 (by decide) ?_
        exact ih _ _ _ _ _ _ _ hf hP hS (lv_sub hl [3, 4, 0] rfl)
def zX8_nextTick_64 : Nat → Int32 → zz_T → Option zz_T
  | 0, _, _ => none
  | n + 1, v1, st =>
    if (zX1_countStations st) ≤ v1 then
      (zX8_sendLoads st).bind fun st13 =>
      (zX8_sendSupplies st13).bind fun st15 =>
      (zX6_lineUp (st15.2 0) st15).bind fun x17 =>
      zX8_nextTick_111 zz_N x17.1 0 x17.2
    else
      (zX7_workAt v1 st).bind fun st26 =>
      zX8_nextTick_64 n (v1 + 1) st26
set_option maxHeartbeats 4000000 in
set_option maxRecDepth 100000 in
theorem zt_X8_nextTick_64 {l : Launch} {A : Nat → Prop} {D : va_G} {cI : ClassId} {q : Nat → Nat} {p : Program} {e : Env} {s : State} {m : MethodId} {args : Array Value} {below : List Frame} {meth : Method} {c : Code} (C : zz_C A D cI q p s m args meth c cX8_nextTick 5 wsX8_nextTick yX8_nextTick.cls) (hr : meth.sig.returnType = none) : ∀ (n : Nat) (v1 : Int32) (st : zz_T) (H : Heap) (locs : List Loc) (ls : Array Slot) (r : zz_T), zX8_nextTick_64 n v1 st = some r → va_P D vwCl (zz_c q cI st) H → va_S A s.heap H locs → lv_has ls 5 [(0, .ref (q 0)), (1, .int v1)] → W p l e zr_X8_nextTick s m args below meth c H locs 0 0 (zz_Qv A D cI q r below args s) (F0 m 64 ls []) := by
  obtain ⟨hx, hb, hml, hown, hts⟩ := id C.1
  intro n
  induction n with
  | zero => intro v1 st H locs ls r hf; cases hf
  | succ n ih =>
    intro v1 st H locs ls r hf hP hS hl
    rw [zX8_nextTick_64] at hf
    refine lv_iload_n hx hb dX8_nextTick_64 rfl (lv_at hl 1 rfl) ?_
    refine lv_aload_n hx hb dX8_nextTick_65 rfl (lv_at hl 0 rfl) ?_
    refine zz_getf C zi_X8_nextTick_X8 hP 0 rfl rfl 0 (nm := "land") (ds := "LThirteenthDay$Land;") (fin := true) rfl (by decide) zk_X8_nextTick_10 rfl dX8_nextTick_66 ?_
    refine zz_callVi C (As := []) (rest := [.int v1]) (zc_X1_countStations _) (cwV 0 hts gX8_nextTick_X1_countStations rfl rfl rfl zd_X1_countStations ⟨Nat.le_of_ble_eq_true rfl, Nat.le_of_ble_eq_true rfl⟩) hP hS 1 rfl rfl rfl hl rfl (Nat.le_of_ble_eq_true rfl) dX8_nextTick_69 ⟨Nat.zero_le _, Nat.zero_le _⟩ (fun H locs hP hS => ?_)
    refine lv_icmp_ge (tgt := 89) hx hb dX8_nextTick_72 (by decide) (fun h => ?_) (fun h => ?_)
    · rw [if_pos h] at hf
      refine lv_aload_n hx hb dX8_nextTick_89 rfl (lv_at hl 0 rfl) ?_
      obtain ⟨st13, e14, hf⟩ := zz_bo hf
      refine zz_callVv C (As := []) (rest := []) (zc_X8_sendLoads _ _ e14) (cwV 0 hts gX8_nextTick_X8_sendLoads rfl rfl rfl zd_X8_sendLoads ⟨Nat.le_of_ble_eq_true rfl, Nat.le_of_ble_eq_true rfl⟩) hP hS 0 rfl rfl rfl hl rfl (Nat.le_of_ble_eq_true rfl) dX8_nextTick_90 ⟨Nat.zero_le _, Nat.zero_le _⟩ (fun H locs hP hS => ?_)
      refine lv_aload_n hx hb dX8_nextTick_93 rfl (lv_at hl 0 rfl) ?_
      obtain ⟨st15, e16, hf⟩ := zz_bo hf
      refine zz_callVv C (As := []) (rest := []) (zc_X8_sendSupplies _ _ e16) (cwV 0 hts gX8_nextTick_X8_sendSupplies rfl rfl rfl zd_X8_sendSupplies ⟨Nat.le_of_ble_eq_true rfl, Nat.le_of_ble_eq_true rfl⟩) hP hS 0 rfl rfl rfl hl rfl (Nat.le_of_ble_eq_true rfl) dX8_nextTick_94 ⟨Nat.zero_le _, Nat.zero_le _⟩ (fun H locs hP hS => ?_)
      refine lv_aload_n hx hb dX8_nextTick_97 rfl (lv_at hl 0 rfl) ?_
      refine zz_getf C zi_X8_nextTick_X8 hP 0 rfl rfl 4 (nm := "trains") (ds := "LThirteenthDay$Trains;") (fin := true) rfl (by decide) zk_X8_nextTick_36 rfl dX8_nextTick_98 ?_
      refine lv_aload_n hx hb dX8_nextTick_101 rfl (lv_at hl 0 rfl) ?_
      refine zz_getf C zi_X8_nextTick_X8 hP 0 rfl rfl 9 (nm := "tick") (ds := "I") (fin := false) rfl (by decide) zk_X8_nextTick_70 rfl dX8_nextTick_102 ?_
      obtain ⟨x17, e18, hf⟩ := zz_bo hf
      refine zz_callVi C (As := [.int (st15.2 0)]) (rest := []) (zc_X6_lineUp _ _ _ e18) (cwV 1 hts gX8_nextTick_X6_lineUp rfl rfl rfl zd_X6_lineUp ⟨Nat.le_of_ble_eq_true rfl, Nat.le_of_ble_eq_true rfl⟩) hP hS 5 rfl rfl rfl hl rfl (Nat.le_of_ble_eq_true rfl) dX8_nextTick_105 ⟨Nat.zero_le _, Nat.zero_le _⟩ (fun H locs hP hS => ?_)
      refine lv_istore_n (lv' := [(1, .int x17.1), (0, .ref (q 0))]) hx hb dX8_nextTick_108 rfl hl (by decide) rfl (fun ls hl => ?_)
      refine lv_iconst (v := 0) hx hb dX8_nextTick_109 (by decide) ?_
      refine lv_istore_n (lv' := [(2, .int 0), (1, .int x17.1), (0, .ref (q 0))]) hx hb dX8_nextTick_110 rfl hl (by decide) rfl (fun ls hl => ?_)
      exact zt_X8_nextTick_111 C hr zz_N _ _ _ _ _ _ _ hf hP hS (lv_sub hl [2, 1, 0] rfl)
    · rw [if_neg h] at hf
      refine lv_aload_n hx hb dX8_nextTick_75 rfl (lv_at hl 0 rfl) ?_
      refine zz_getf C zi_X8_nextTick_X8 hP 0 rfl rfl 1 (nm := "units") (ds := "LThirteenthDay$Units;") (fin := true) rfl (by decide) zk_X8_nextTick_19 rfl dX8_nextTick_76 ?_
      refine lv_iload_n hx hb dX8_nextTick_79 rfl (lv_at hl 1 rfl) ?_
      obtain ⟨st26, e27, hf⟩ := zz_bo hf
      refine zz_callVv C (As := [.int v1]) (rest := []) (zc_X7_workAt _ _ _ e27) (cwV 1 hts gX8_nextTick_X7_workAt rfl rfl rfl zd_X7_workAt ⟨Nat.le_of_ble_eq_true rfl, Nat.le_of_ble_eq_true rfl⟩) hP hS 2 rfl rfl rfl hl rfl (Nat.le_of_ble_eq_true rfl) dX8_nextTick_80 ⟨Nat.zero_le _, Nat.zero_le _⟩ (fun H locs hP hS => ?_)
      refine lv_iinc (v := (v1 + 1)) (lv' := [(1, .int (v1 + 1)), (0, .ref (q 0))]) hx hb dX8_nextTick_83 hl (k := 1) rfl (congrArg (fun z => v1 + z) (by decide)) (by decide) rfl (fun ls hl => ?_)
      refine lv_goto (tgt := 64) hx hb dX8_nextTick_86 (by decide) ?_
      exact ih _ _ _ _ _ _ hf hP hS (lv_sub hl [1, 0] rfl)
def zX8_nextTick (st : zz_T) : Option zz_T :=
  zz_v (zz_S 0 ((st.2 0) + 1) st) fun st1 =>
  (zX1_clearFoul st1).bind fun st3 =>
  (zX7_takeOrders (st3.2 0) st3).bind fun st5 =>
  (zX8_bringStops st5).bind fun st7 =>
  (zX8_bringEngines st7).bind fun st9 =>
  (zX7_come (st9.2 0) st9).bind fun st11 =>
  if ((st11.2 0) - (st11.2 0) / 144 * 144) = 0 then
    (zX8_beginDay st11).bind fun st28 =>
    zX8_nextTick_64 zz_N 0 st28
  else
    zX8_nextTick_64 zz_N 0 st11
set_option maxHeartbeats 4000000 in
set_option maxRecDepth 100000 in
theorem zc_X8_nextTick {l : Launch} {A : Nat → Prop} {D : va_G} {cI : ClassId} {q : Nat → Nat} (st : zz_T) (r : zz_T) (hf : zX8_nextTick st = some r) : zz_Mv l A D cI q yX8_nextTick wsX8_nextTick zr_X8_nextTick [.ref (q 0)] st r := by
  refine zz_of (cc := cX8_nextTick) (nL := 5) (ret := none) (by decide) rfl (Nat.le_of_ble_eq_true rfl) ?_
  intro p e s m args below meth c ls C hr hP hS hl
  obtain ⟨hx, hb, hml, hown, hts⟩ := id C.1
  have hl : lv_has ls 5 [(0, .ref (q 0))] := hl
  rw [zX8_nextTick] at hf
  skip
  refine lv_aload_n hx hb dX8_nextTick_0 rfl (lv_at hl 0 rfl) ?_
  refine lv_dup hx hb dX8_nextTick_1 rfl ?_
  refine zz_getf C zi_X8_nextTick_X8 hP 0 rfl rfl 9 (nm := "tick") (ds := "I") (fin := false) rfl (by decide) zk_X8_nextTick_70 rfl dX8_nextTick_2 ?_
  refine lv_iconst (v := 1) hx hb dX8_nextTick_5 (by decide) ?_
  refine lv_iadd hx hb dX8_nextTick_6 ?_
  obtain ⟨st1, e2, hf⟩ := zz_vo hf
  refine zz_putf (st' := st1) C zi_X8_nextTick_X8 tyX8 tyX8_ok nmX8 hP hS 0 rfl rfl 9 (nm := "tick") rfl (by decide) zk_X8_nextTick_70 (Nat.le_of_ble_eq_true rfl) (by rw [← e2]; rfl) dX8_nextTick_7 (fun H locs hP hS => ?_)
  refine lv_aload_n hx hb dX8_nextTick_10 rfl (lv_at hl 0 rfl) ?_
  refine zz_getf C zi_X8_nextTick_X8 hP 0 rfl rfl 0 (nm := "land") (ds := "LThirteenthDay$Land;") (fin := true) rfl (by decide) zk_X8_nextTick_10 rfl dX8_nextTick_11 ?_
  obtain ⟨st3, e4, hf⟩ := zz_bo hf
  refine zz_callVv C (As := []) (rest := []) (zc_X1_clearFoul _ _ e4) (cwV 0 hts gX8_nextTick_X1_clearFoul rfl rfl rfl zd_X1_clearFoul ⟨Nat.le_of_ble_eq_true rfl, Nat.le_of_ble_eq_true rfl⟩) hP hS 1 rfl rfl rfl hl rfl (Nat.le_of_ble_eq_true rfl) dX8_nextTick_14 ⟨Nat.zero_le _, Nat.zero_le _⟩ (fun H locs hP hS => ?_)
  refine lv_aload_n hx hb dX8_nextTick_17 rfl (lv_at hl 0 rfl) ?_
  refine zz_getf C zi_X8_nextTick_X8 hP 0 rfl rfl 1 (nm := "units") (ds := "LThirteenthDay$Units;") (fin := true) rfl (by decide) zk_X8_nextTick_19 rfl dX8_nextTick_18 ?_
  refine lv_aload_n hx hb dX8_nextTick_21 rfl (lv_at hl 0 rfl) ?_
  refine zz_getf C zi_X8_nextTick_X8 hP 0 rfl rfl 9 (nm := "tick") (ds := "I") (fin := false) rfl (by decide) zk_X8_nextTick_70 rfl dX8_nextTick_22 ?_
  obtain ⟨st5, e6, hf⟩ := zz_bo hf
  refine zz_callVv C (As := [.int (st3.2 0)]) (rest := []) (zc_X7_takeOrders _ _ _ e6) (cwV 1 hts gX8_nextTick_X7_takeOrders rfl rfl rfl zd_X7_takeOrders ⟨Nat.le_of_ble_eq_true rfl, Nat.le_of_ble_eq_true rfl⟩) hP hS 2 rfl rfl rfl hl rfl (Nat.le_of_ble_eq_true rfl) dX8_nextTick_25 ⟨Nat.zero_le _, Nat.zero_le _⟩ (fun H locs hP hS => ?_)
  refine lv_aload_n hx hb dX8_nextTick_28 rfl (lv_at hl 0 rfl) ?_
  obtain ⟨st7, e8, hf⟩ := zz_bo hf
  refine zz_callVv C (As := []) (rest := []) (zc_X8_bringStops _ _ e8) (cwV 0 hts gX8_nextTick_X8_bringStops rfl rfl rfl zd_X8_bringStops ⟨Nat.le_of_ble_eq_true rfl, Nat.le_of_ble_eq_true rfl⟩) hP hS 0 rfl rfl rfl hl rfl (Nat.le_of_ble_eq_true rfl) dX8_nextTick_29 ⟨Nat.zero_le _, Nat.zero_le _⟩ (fun H locs hP hS => ?_)
  refine lv_aload_n hx hb dX8_nextTick_32 rfl (lv_at hl 0 rfl) ?_
  obtain ⟨st9, e10, hf⟩ := zz_bo hf
  refine zz_callVv C (As := []) (rest := []) (zc_X8_bringEngines _ _ e10) (cwV 0 hts gX8_nextTick_X8_bringEngines rfl rfl rfl zd_X8_bringEngines ⟨Nat.le_of_ble_eq_true rfl, Nat.le_of_ble_eq_true rfl⟩) hP hS 0 rfl rfl rfl hl rfl (Nat.le_of_ble_eq_true rfl) dX8_nextTick_33 ⟨Nat.zero_le _, Nat.zero_le _⟩ (fun H locs hP hS => ?_)
  refine lv_aload_n hx hb dX8_nextTick_36 rfl (lv_at hl 0 rfl) ?_
  refine zz_getf C zi_X8_nextTick_X8 hP 0 rfl rfl 1 (nm := "units") (ds := "LThirteenthDay$Units;") (fin := true) rfl (by decide) zk_X8_nextTick_19 rfl dX8_nextTick_37 ?_
  refine lv_aload_n hx hb dX8_nextTick_40 rfl (lv_at hl 0 rfl) ?_
  refine zz_getf C zi_X8_nextTick_X8 hP 0 rfl rfl 9 (nm := "tick") (ds := "I") (fin := false) rfl (by decide) zk_X8_nextTick_70 rfl dX8_nextTick_41 ?_
  obtain ⟨st11, e12, hf⟩ := zz_bo hf
  refine zz_callVv C (As := [.int (st9.2 0)]) (rest := []) (zc_X7_come _ _ _ e12) (cwV 1 hts gX8_nextTick_X7_come rfl rfl rfl zd_X7_come ⟨Nat.le_of_ble_eq_true rfl, Nat.le_of_ble_eq_true rfl⟩) hP hS 2 rfl rfl rfl hl rfl (Nat.le_of_ble_eq_true rfl) dX8_nextTick_44 ⟨Nat.zero_le _, Nat.zero_le _⟩ (fun H locs hP hS => ?_)
  refine lv_aload_n hx hb dX8_nextTick_47 rfl (lv_at hl 0 rfl) ?_
  refine zz_getf C zi_X8_nextTick_X8 hP 0 rfl rfl 9 (nm := "tick") (ds := "I") (fin := false) rfl (by decide) zk_X8_nextTick_70 rfl dX8_nextTick_48 ?_
  refine lv_sipush (v := 144) hx hb dX8_nextTick_51 (by decide) ?_
  refine lv_irem hx hb dX8_nextTick_54 (by decide) ?_
  refine lv_if_ne (tgt := 62) hx hb dX8_nextTick_55 (by decide) (fun h => ?_) (fun h => ?_)
  · rw [if_neg h] at hf
    refine lv_iconst (v := 0) hx hb dX8_nextTick_62 (by decide) ?_
    refine lv_istore_n (lv' := [(1, .int 0), (0, .ref (q 0))]) hx hb dX8_nextTick_63 rfl hl (by decide) rfl (fun ls hl => ?_)
    exact zt_X8_nextTick_64 C hr zz_N _ _ _ _ _ _ hf hP hS (lv_sub hl [1, 0] rfl)
  · rw [if_pos h] at hf
    refine lv_aload_n hx hb dX8_nextTick_58 rfl (lv_at hl 0 rfl) ?_
    obtain ⟨st28, e29, hf⟩ := zz_bo hf
    refine zz_callVv C (As := []) (rest := []) (zc_X8_beginDay _ _ e29) (cwV 0 hts gX8_nextTick_X8_beginDay rfl rfl rfl zd_X8_beginDay ⟨Nat.le_of_ble_eq_true rfl, Nat.le_of_ble_eq_true rfl⟩) hP hS 0 rfl rfl rfl hl rfl (Nat.le_of_ble_eq_true rfl) dX8_nextTick_59 ⟨Nat.zero_le _, Nat.zero_le _⟩ (fun H locs hP hS => ?_)
    refine lv_iconst (v := 0) hx hb dX8_nextTick_62 (by decide) ?_
    refine lv_istore_n (lv' := [(1, .int 0), (0, .ref (q 0))]) hx hb dX8_nextTick_63 rfl hl (by decide) rfl (fun ls hl => ?_)
    exact zt_X8_nextTick_64 C hr zz_N _ _ _ _ _ _ hf hP hS (lv_sub hl [1, 0] rfl)
/-! X8_wireTicks PR -/
theorem zd_X8_wireTicks : yX8_wireTicks.cls = RX8 ∧ yX8_wireTicks.cls ≠ "java/lang/invoke/MethodHandle" ∧ yX8_wireTicks.cls ≠ "java/lang/invoke/VarHandle" ∧ (parseMethodDescriptor yX8_wireTicks.desc).map (fun d => d.parameters.length) = some 1 := by decide +kernel
abbrev zr_X8_wireTicks : Room := { frames := 3, cells := 0, slots := 0, locals := 72 }
theorem zk_X8_wireTicks_10 : Cond.fieldLink yX8_wireTicks.cls 10 RX8 "land" "LThirteenthDay$Land;" ∈ wsX8_wireTicks := by decide +kernel
theorem zk_X8_wireTicks_19 : Cond.fieldLink yX8_wireTicks.cls 19 RX8 "units" "LThirteenthDay$Units;" ∈ wsX8_wireTicks := by decide +kernel
theorem zi_X8_wireTicks_X8 : ∀ w ∈ u_ws RX8 TX8 11, w ∈ wsX8_wireTicks := by decide +kernel
def zX8_wireTicks (v1 : Int32) (st : zz_T) : Option Int32 :=
  (zX1_linesOf 0 (zX7_get v1 2 st) st).bind fun x1 =>
  if x1 = (-1) then
    some 30
  else
    if x1 = 0 then
      some 1
    else
      some (3 * x1)
set_option maxHeartbeats 4000000 in
set_option maxRecDepth 100000 in
theorem zc_X8_wireTicks {l : Launch} {A : Nat → Prop} {D : va_G} {cI : ClassId} {q : Nat → Nat} (v1 : Int32) (st : zz_T) (r : Int32) (hf : zX8_wireTicks v1 st = some r) : zz_Mi l A D cI q yX8_wireTicks wsX8_wireTicks zr_X8_wireTicks [.ref (q 0), .int v1] st r st := by
  refine zz_of (cc := cX8_wireTicks) (nL := 3) (ret := some .int) (by decide) rfl (Nat.le_of_ble_eq_true rfl) ?_
  intro p e s m args below meth c ls C hr hP hS hl
  obtain ⟨hx, hb, hml, hown, hts⟩ := id C.1
  have hl : lv_has ls 3 [(0, .ref (q 0)), (1, .int v1)] := hl
  rw [zX8_wireTicks] at hf
  skip
  refine lv_aload_n hx hb dX8_wireTicks_0 rfl (lv_at hl 0 rfl) ?_
  refine zz_getf C zi_X8_wireTicks_X8 hP 0 rfl rfl 0 (nm := "land") (ds := "LThirteenthDay$Land;") (fin := true) rfl (by decide) zk_X8_wireTicks_10 rfl dX8_wireTicks_1 ?_
  refine lv_iconst (v := 0) hx hb dX8_wireTicks_4 (by decide) ?_
  refine lv_aload_n hx hb dX8_wireTicks_5 rfl (lv_at hl 0 rfl) ?_
  refine zz_getf C zi_X8_wireTicks_X8 hP 0 rfl rfl 1 (nm := "units") (ds := "LThirteenthDay$Units;") (fin := true) rfl (by decide) zk_X8_wireTicks_19 rfl dX8_wireTicks_6 ?_
  refine lv_iload_n hx hb dX8_wireTicks_9 rfl (lv_at hl 1 rfl) ?_
  refine lv_iconst (v := 2) hx hb dX8_wireTicks_10 (by decide) ?_
  refine zz_callVi C (As := [.int v1, .int 2]) (rest := [.int 0, .ref (q 1)]) (zc_X7_get _ _ _) (cwV 2 hts gX8_wireTicks_X7_get rfl rfl rfl zd_X7_get ⟨Nat.le_of_ble_eq_true rfl, Nat.le_of_ble_eq_true rfl⟩) hP hS 2 rfl rfl rfl hl rfl (Nat.le_of_ble_eq_true rfl) dX8_wireTicks_11 ⟨Nat.zero_le _, Nat.zero_le _⟩ (fun H locs hP hS => ?_)
  obtain ⟨x1, e2, hf⟩ := zz_bo hf
  refine zz_callVi C (As := [.int 0, .int (zX7_get v1 2 st)]) (rest := []) (zc_X1_linesOf _ _ _ _ e2) (cwV 2 hts gX8_wireTicks_X1_linesOf rfl rfl rfl zd_X1_linesOf ⟨Nat.le_of_ble_eq_true rfl, Nat.le_of_ble_eq_true rfl⟩) hP hS 1 rfl rfl rfl hl rfl (Nat.le_of_ble_eq_true rfl) dX8_wireTicks_14 ⟨Nat.zero_le _, Nat.zero_le _⟩ (fun H locs hP hS => ?_)
  refine lv_istore_n (lv' := [(2, .int x1), (0, .ref (q 0)), (1, .int v1)]) hx hb dX8_wireTicks_17 rfl hl (by decide) rfl (fun ls hl => ?_)
  refine lv_iload_n hx hb dX8_wireTicks_18 rfl (lv_at hl 0 rfl) ?_
  refine lv_iconst (v := (-1)) hx hb dX8_wireTicks_19 (by decide) ?_
  refine lv_icmp_ne (tgt := 26) hx hb dX8_wireTicks_20 (by decide) (fun h => ?_) (fun h => ?_)
  · rw [if_neg h] at hf
    refine lv_iload_n hx hb dX8_wireTicks_26 rfl (lv_at hl 0 rfl) ?_
    refine lv_if_ne (tgt := 34) hx hb dX8_wireTicks_27 (by decide) (fun h => ?_) (fun h => ?_)
    · rw [if_neg h] at hf
      refine lv_iconst (v := 3) hx hb dX8_wireTicks_34 (by decide) ?_
      refine lv_iload_n hx hb dX8_wireTicks_35 rfl (lv_at hl 0 rfl) ?_
      refine lv_imul hx hb dX8_wireTicks_36 ?_
      rw [← (Option.some.inj hf)]
      exact zz_reti C hr hP hS dX8_wireTicks_37
    · rw [if_pos h] at hf
      refine lv_iconst (v := 1) hx hb dX8_wireTicks_30 (by decide) ?_
      refine lv_goto (tgt := 37) hx hb dX8_wireTicks_31 (by decide) ?_
      rw [← (Option.some.inj hf)]
      exact zz_reti C hr hP hS dX8_wireTicks_37
  · rw [if_pos h] at hf
    refine lv_bipush (v := 30) hx hb dX8_wireTicks_23 (by decide) ?_
    rw [← (Option.some.inj hf)]
    exact zz_reti C hr hP hS dX8_wireTicks_25
/-! X8_order PW -/
theorem zd_X8_order : yX8_order.cls = RX8 ∧ yX8_order.cls ≠ "java/lang/invoke/MethodHandle" ∧ yX8_order.cls ≠ "java/lang/invoke/VarHandle" ∧ (parseMethodDescriptor yX8_order.desc).map (fun d => d.parameters.length) = some 1 := by decide +kernel
abbrev zr_X8_order : Room := { frames := 4, cells := 0, slots := 0, locals := 94 }
theorem zk_X8_order_19 : Cond.fieldLink yX8_order.cls 19 RX8 "units" "LThirteenthDay$Units;" ∈ wsX8_order := by decide +kernel
theorem zk_X8_order_10 : Cond.fieldLink yX8_order.cls 10 RX8 "land" "LThirteenthDay$Land;" ∈ wsX8_order := by decide +kernel
theorem zk_X8_order_70 : Cond.fieldLink yX8_order.cls 70 RX8 "tick" "I" ∈ wsX8_order := by decide +kernel
theorem zi_X8_order_X8 : ∀ w ∈ u_ws RX8 TX8 11, w ∈ wsX8_order := by decide +kernel
def zX8_order_50 : Nat → Int32 → Int32 → Int32 → zz_T → Option (Int32 × zz_T)
  | 0, _, _, _, _ => none
  | n + 1, v1, v2, v3, st =>
    if (zX7_count st) ≤ v3 then
      some (v2, st)
    else
      if ((v1 >>> (v3 &&& 31)) &&& 1) = 1 then
        if (zX7_get v3 4 st) = 0 then
          zz_v (zX7_set v3 4 1 st) fun st1 =>
          (zX8_wireTicks v3 st1).bind fun x3 =>
          zz_v (zX7_set v3 10 ((st1.2 0) + x3) st1) fun st5 =>
          zX8_order_50 n v1 (v2 + 1) (v3 + 1) st5
        else
          zX8_order_50 n v1 v2 (v3 + 1) st
      else
        zX8_order_50 n v1 v2 (v3 + 1) st
set_option maxHeartbeats 4000000 in
set_option maxRecDepth 100000 in
theorem zt_X8_order_50 {l : Launch} {A : Nat → Prop} {D : va_G} {cI : ClassId} {q : Nat → Nat} {p : Program} {e : Env} {s : State} {m : MethodId} {args : Array Value} {below : List Frame} {meth : Method} {c : Code} (C : zz_C A D cI q p s m args meth c cX8_order 4 wsX8_order yX8_order.cls) (hr : meth.sig.returnType = some .int) : ∀ (n : Nat) (v1 : Int32) (v2 : Int32) (v3 : Int32) (st : zz_T) (H : Heap) (locs : List Loc) (ls : Array Slot) (r : (Int32 × zz_T)), zX8_order_50 n v1 v2 v3 st = some r → va_P D vwCl (zz_c q cI st) H → va_S A s.heap H locs → lv_has ls 4 [(0, .ref (q 0)), (1, .int v1), (2, .int v2), (3, .int v3)] → W p l e zr_X8_order s m args below meth c H locs 0 0 (zz_Qi A D cI q r.1 r.2 below args s) (F0 m 50 ls []) := by
  obtain ⟨hx, hb, hml, hown, hts⟩ := id C.1
  intro n
  induction n with
  | zero => intro v1 v2 v3 st H locs ls r hf; cases hf
  | succ n ih =>
    intro v1 v2 v3 st H locs ls r hf hP hS hl
    rw [zX8_order_50] at hf
    refine lv_iload_n hx hb dX8_order_50 rfl (lv_at hl 3 rfl) ?_
    refine lv_aload_n hx hb dX8_order_51 rfl (lv_at hl 0 rfl) ?_
    refine zz_getf C zi_X8_order_X8 hP 0 rfl rfl 1 (nm := "units") (ds := "LThirteenthDay$Units;") (fin := true) rfl (by decide) zk_X8_order_19 rfl dX8_order_52 ?_
    refine zz_callVi C (As := []) (rest := [.int v3]) (zc_X7_count _) (cwV 0 hts gX8_order_X7_count rfl rfl rfl zd_X7_count ⟨Nat.le_of_ble_eq_true rfl, Nat.le_of_ble_eq_true rfl⟩) hP hS 2 rfl rfl rfl hl rfl (Nat.le_of_ble_eq_true rfl) dX8_order_55 ⟨Nat.zero_le _, Nat.zero_le _⟩ (fun H locs hP hS => ?_)
    refine lv_icmp_ge (tgt := 121) hx hb dX8_order_58 (by decide) (fun h => ?_) (fun h => ?_)
    · rw [if_pos h] at hf
      refine lv_iload_n hx hb dX8_order_121 rfl (lv_at hl 2 rfl) ?_
      rw [← (Option.some.inj hf)]
      exact zz_reti C hr hP hS dX8_order_122
    · rw [if_neg h] at hf
      refine lv_iload_n hx hb dX8_order_61 rfl (lv_at hl 1 rfl) ?_
      refine lv_iload_n hx hb dX8_order_62 rfl (lv_at hl 3 rfl) ?_
      refine lv_ishr hx hb dX8_order_63 ?_
      refine lv_iconst (v := 1) hx hb dX8_order_64 (by decide) ?_
      refine lv_iand hx hb dX8_order_65 ?_
      refine lv_iconst (v := 1) hx hb dX8_order_66 (by decide) ?_
      refine lv_icmp_ne (tgt := 115) hx hb dX8_order_67 (by decide) (fun h => ?_) (fun h => ?_)
      · rw [if_neg h] at hf
        refine lv_iinc (v := (v3 + 1)) (lv' := [(3, .int (v3 + 1)), (0, .ref (q 0)), (1, .int v1), (2, .int v2)]) hx hb dX8_order_115 hl (k := 3) rfl (congrArg (fun z => v3 + z) (by decide)) (by decide) rfl (fun ls hl => ?_)
        refine lv_goto (tgt := 50) hx hb dX8_order_118 (by decide) ?_
        exact ih _ _ _ _ _ _ _ _ hf hP hS (lv_sub hl [1, 2, 3, 0] rfl)
      · rw [if_pos h] at hf
        refine lv_aload_n hx hb dX8_order_70 rfl (lv_at hl 0 rfl) ?_
        refine zz_getf C zi_X8_order_X8 hP 0 rfl rfl 1 (nm := "units") (ds := "LThirteenthDay$Units;") (fin := true) rfl (by decide) zk_X8_order_19 rfl dX8_order_71 ?_
        refine lv_iload_n hx hb dX8_order_74 rfl (lv_at hl 3 rfl) ?_
        refine lv_iconst (v := 4) hx hb dX8_order_75 (by decide) ?_
        refine zz_callVi C (As := [.int v3, .int 4]) (rest := []) (zc_X7_get _ _ _) (cwV 2 hts gX8_order_X7_get rfl rfl rfl zd_X7_get ⟨Nat.le_of_ble_eq_true rfl, Nat.le_of_ble_eq_true rfl⟩) hP hS 2 rfl rfl rfl hl rfl (Nat.le_of_ble_eq_true rfl) dX8_order_76 ⟨Nat.zero_le _, Nat.zero_le _⟩ (fun H locs hP hS => ?_)
        refine lv_if_ne (tgt := 115) hx hb dX8_order_79 (by decide) (fun h => ?_) (fun h => ?_)
        · rw [if_neg h] at hf
          refine lv_iinc (v := (v3 + 1)) (lv' := [(3, .int (v3 + 1)), (0, .ref (q 0)), (1, .int v1), (2, .int v2)]) hx hb dX8_order_115 hl (k := 3) rfl (congrArg (fun z => v3 + z) (by decide)) (by decide) rfl (fun ls hl => ?_)
          refine lv_goto (tgt := 50) hx hb dX8_order_118 (by decide) ?_
          exact ih _ _ _ _ _ _ _ _ hf hP hS (lv_sub hl [1, 2, 3, 0] rfl)
        · rw [if_pos h] at hf
          refine lv_aload_n hx hb dX8_order_82 rfl (lv_at hl 0 rfl) ?_
          refine zz_getf C zi_X8_order_X8 hP 0 rfl rfl 1 (nm := "units") (ds := "LThirteenthDay$Units;") (fin := true) rfl (by decide) zk_X8_order_19 rfl dX8_order_83 ?_
          refine lv_iload_n hx hb dX8_order_86 rfl (lv_at hl 3 rfl) ?_
          refine lv_iconst (v := 4) hx hb dX8_order_87 (by decide) ?_
          refine lv_iconst (v := 1) hx hb dX8_order_88 (by decide) ?_
          obtain ⟨st1, e2, hf⟩ := zz_vo hf
          refine zz_callVv C (As := [.int v3, .int 4, .int 1]) (rest := []) (zz_Mv_e e2 (zc_X7_set _ _ _ _)) (cwV 3 hts gX8_order_X7_set rfl rfl rfl zd_X7_set ⟨Nat.le_of_ble_eq_true rfl, Nat.le_of_ble_eq_true rfl⟩) hP hS 2 rfl rfl rfl hl rfl (Nat.le_of_ble_eq_true rfl) dX8_order_89 ⟨Nat.zero_le _, Nat.zero_le _⟩ (fun H locs hP hS => ?_)
          refine lv_aload_n hx hb dX8_order_92 rfl (lv_at hl 0 rfl) ?_
          refine zz_getf C zi_X8_order_X8 hP 0 rfl rfl 1 (nm := "units") (ds := "LThirteenthDay$Units;") (fin := true) rfl (by decide) zk_X8_order_19 rfl dX8_order_93 ?_
          refine lv_iload_n hx hb dX8_order_96 rfl (lv_at hl 3 rfl) ?_
          refine lv_bipush (v := 10) hx hb dX8_order_97 (by decide) ?_
          refine lv_aload_n hx hb dX8_order_99 rfl (lv_at hl 0 rfl) ?_
          refine zz_getf C zi_X8_order_X8 hP 0 rfl rfl 9 (nm := "tick") (ds := "I") (fin := false) rfl (by decide) zk_X8_order_70 rfl dX8_order_100 ?_
          refine lv_aload_n hx hb dX8_order_103 rfl (lv_at hl 0 rfl) ?_
          refine lv_iload_n hx hb dX8_order_104 rfl (lv_at hl 3 rfl) ?_
          obtain ⟨x3, e4, hf⟩ := zz_bo hf
          refine zz_callVi C (As := [.int v3]) (rest := [.int (st1.2 0), .int 10, .int v3, .ref (q 2)]) (zc_X8_wireTicks _ _ _ e4) (cwV 1 hts gX8_order_X8_wireTicks rfl rfl rfl zd_X8_wireTicks ⟨Nat.le_of_ble_eq_true rfl, Nat.le_of_ble_eq_true rfl⟩) hP hS 0 rfl rfl rfl hl rfl (Nat.le_of_ble_eq_true rfl) dX8_order_105 ⟨Nat.zero_le _, Nat.zero_le _⟩ (fun H locs hP hS => ?_)
          refine lv_iadd hx hb dX8_order_108 ?_
          obtain ⟨st5, e6, hf⟩ := zz_vo hf
          refine zz_callVv C (As := [.int v3, .int 10, .int ((st1.2 0) + x3)]) (rest := []) (zz_Mv_e e6 (zc_X7_set _ _ _ _)) (cwV 3 hts gX8_order_X7_set rfl rfl rfl zd_X7_set ⟨Nat.le_of_ble_eq_true rfl, Nat.le_of_ble_eq_true rfl⟩) hP hS 2 rfl rfl rfl hl rfl (Nat.le_of_ble_eq_true rfl) dX8_order_109 ⟨Nat.zero_le _, Nat.zero_le _⟩ (fun H locs hP hS => ?_)
          refine lv_iinc (v := (v2 + 1)) (lv' := [(2, .int (v2 + 1)), (0, .ref (q 0)), (1, .int v1), (3, .int v3)]) hx hb dX8_order_112 hl (k := 2) rfl (congrArg (fun z => v2 + z) (by decide)) (by decide) rfl (fun ls hl => ?_)
          refine lv_iinc (v := (v3 + 1)) (lv' := [(3, .int (v3 + 1)), (2, .int (v2 + 1)), (0, .ref (q 0)), (1, .int v1)]) hx hb dX8_order_115 hl (k := 3) rfl (congrArg (fun z => v3 + z) (by decide)) (by decide) rfl (fun ls hl => ?_)
          refine lv_goto (tgt := 50) hx hb dX8_order_118 (by decide) ?_
          exact ih _ _ _ _ _ _ _ _ hf hP hS (lv_sub hl [2, 3, 1, 0] rfl)
def zX8_order (v1 : Int32) (st : zz_T) : Option (Int32 × zz_T) :=
  if v1 < 0 then
    none
  else
    if (v1 >>> ((zX7_count st) &&& 31)) = 0 then
      if (zX1_countStations st) = 0 then
        none
      else
        zX8_order_50 zz_N v1 0 0 st
    else
      none
set_option maxHeartbeats 4000000 in
set_option maxRecDepth 100000 in
theorem zc_X8_order {l : Launch} {A : Nat → Prop} {D : va_G} {cI : ClassId} {q : Nat → Nat} (v1 : Int32) (st : zz_T) (r : (Int32 × zz_T)) (hf : zX8_order v1 st = some r) : zz_Mi l A D cI q yX8_order wsX8_order zr_X8_order [.ref (q 0), .int v1] st r.1 r.2 := by
  refine zz_of (cc := cX8_order) (nL := 4) (ret := some .int) (by decide) rfl (Nat.le_of_ble_eq_true rfl) ?_
  intro p e s m args below meth c ls C hr hP hS hl
  obtain ⟨hx, hb, hml, hown, hts⟩ := id C.1
  have hl : lv_has ls 4 [(0, .ref (q 0)), (1, .int v1)] := hl
  rw [zX8_order] at hf
  skip
  refine lv_iload_n hx hb dX8_order_0 rfl (lv_at hl 1 rfl) ?_
  refine lv_if_lt (tgt := 16) hx hb dX8_order_1 (by decide) (fun h => ?_) (fun h => ?_)
  · rw [if_pos h] at hf
    cases hf
  · rw [if_neg h] at hf
    refine lv_iload_n hx hb dX8_order_4 rfl (lv_at hl 1 rfl) ?_
    refine lv_aload_n hx hb dX8_order_5 rfl (lv_at hl 0 rfl) ?_
    refine zz_getf C zi_X8_order_X8 hP 0 rfl rfl 1 (nm := "units") (ds := "LThirteenthDay$Units;") (fin := true) rfl (by decide) zk_X8_order_19 rfl dX8_order_6 ?_
    refine zz_callVi C (As := []) (rest := [.int v1]) (zc_X7_count _) (cwV 0 hts gX8_order_X7_count rfl rfl rfl zd_X7_count ⟨Nat.le_of_ble_eq_true rfl, Nat.le_of_ble_eq_true rfl⟩) hP hS 2 rfl rfl rfl hl rfl (Nat.le_of_ble_eq_true rfl) dX8_order_9 ⟨Nat.zero_le _, Nat.zero_le _⟩ (fun H locs hP hS => ?_)
    refine lv_ishr hx hb dX8_order_12 ?_
    refine lv_if_eq (tgt := 26) hx hb dX8_order_13 (by decide) (fun h => ?_) (fun h => ?_)
    · rw [if_pos h] at hf
      refine lv_aload_n hx hb dX8_order_26 rfl (lv_at hl 0 rfl) ?_
      refine zz_getf C zi_X8_order_X8 hP 0 rfl rfl 0 (nm := "land") (ds := "LThirteenthDay$Land;") (fin := true) rfl (by decide) zk_X8_order_10 rfl dX8_order_27 ?_
      refine zz_callVi C (As := []) (rest := []) (zc_X1_countStations _) (cwV 0 hts gX8_order_X1_countStations rfl rfl rfl zd_X1_countStations ⟨Nat.le_of_ble_eq_true rfl, Nat.le_of_ble_eq_true rfl⟩) hP hS 1 rfl rfl rfl hl rfl (Nat.le_of_ble_eq_true rfl) dX8_order_30 ⟨Nat.zero_le _, Nat.zero_le _⟩ (fun H locs hP hS => ?_)
      refine lv_if_ne (tgt := 46) hx hb dX8_order_33 (by decide) (fun h => ?_) (fun h => ?_)
      · rw [if_neg h] at hf
        refine lv_iconst (v := 0) hx hb dX8_order_46 (by decide) ?_
        refine lv_istore_n (lv' := [(2, .int 0), (0, .ref (q 0)), (1, .int v1)]) hx hb dX8_order_47 rfl hl (by decide) rfl (fun ls hl => ?_)
        refine lv_iconst (v := 0) hx hb dX8_order_48 (by decide) ?_
        refine lv_istore_n (lv' := [(3, .int 0), (2, .int 0), (0, .ref (q 0)), (1, .int v1)]) hx hb dX8_order_49 rfl hl (by decide) rfl (fun ls hl => ?_)
        exact zt_X8_order_50 C hr zz_N _ _ _ _ _ _ _ _ hf hP hS (lv_sub hl [2, 3, 1, 0] rfl)
      · rw [if_pos h] at hf
        cases hf
    · rw [if_neg h] at hf
      cases hf
/-! X8_pass PW -/
theorem zd_X8_pass : yX8_pass.cls = RX8 ∧ yX8_pass.cls ≠ "java/lang/invoke/MethodHandle" ∧ yX8_pass.cls ≠ "java/lang/invoke/VarHandle" ∧ (parseMethodDescriptor yX8_pass.desc).map (fun d => d.parameters.length) = some 1 := by decide +kernel
abbrev zr_X8_pass : Room := { frames := 6, cells := 0, slots := 0, locals := 147 }
theorem zk_X8_pass_70 : Cond.fieldLink yX8_pass.cls 70 RX8 "tick" "I" ∈ wsX8_pass := by decide +kernel
theorem zi_X8_pass_X8 : ∀ w ∈ u_ws RX8 TX8 11, w ∈ wsX8_pass := by decide +kernel
def zX8_pass_48 : Nat → Int32 → Int32 → zz_T → Option (Int32 × zz_T)
  | 0, _, _, _ => none
  | n + 1, v1, v2, st =>
    if v1 ≤ v2 then
      some ((st.2 0), st)
    else
      (zX8_nextTick st).bind fun st1 =>
      zX8_pass_48 n v1 (v2 + 1) st1
set_option maxHeartbeats 4000000 in
set_option maxRecDepth 100000 in
theorem zt_X8_pass_48 {l : Launch} {A : Nat → Prop} {D : va_G} {cI : ClassId} {q : Nat → Nat} {p : Program} {e : Env} {s : State} {m : MethodId} {args : Array Value} {below : List Frame} {meth : Method} {c : Code} (C : zz_C A D cI q p s m args meth c cX8_pass 3 wsX8_pass yX8_pass.cls) (hr : meth.sig.returnType = some .int) : ∀ (n : Nat) (v1 : Int32) (v2 : Int32) (st : zz_T) (H : Heap) (locs : List Loc) (ls : Array Slot) (r : (Int32 × zz_T)), zX8_pass_48 n v1 v2 st = some r → va_P D vwCl (zz_c q cI st) H → va_S A s.heap H locs → lv_has ls 3 [(0, .ref (q 0)), (1, .int v1), (2, .int v2)] → W p l e zr_X8_pass s m args below meth c H locs 0 0 (zz_Qi A D cI q r.1 r.2 below args s) (F0 m 48 ls []) := by
  obtain ⟨hx, hb, hml, hown, hts⟩ := id C.1
  intro n
  induction n with
  | zero => intro v1 v2 st H locs ls r hf; cases hf
  | succ n ih =>
    intro v1 v2 st H locs ls r hf hP hS hl
    rw [zX8_pass_48] at hf
    refine lv_iload_n hx hb dX8_pass_48 rfl (lv_at hl 2 rfl) ?_
    refine lv_iload_n hx hb dX8_pass_49 rfl (lv_at hl 1 rfl) ?_
    refine lv_icmp_ge (tgt := 63) hx hb dX8_pass_50 (by decide) (fun h => ?_) (fun h => ?_)
    · rw [if_pos h] at hf
      refine lv_aload_n hx hb dX8_pass_63 rfl (lv_at hl 0 rfl) ?_
      refine zz_getf C zi_X8_pass_X8 hP 0 rfl rfl 9 (nm := "tick") (ds := "I") (fin := false) rfl (by decide) zk_X8_pass_70 rfl dX8_pass_64 ?_
      rw [← (Option.some.inj hf)]
      exact zz_reti C hr hP hS dX8_pass_67
    · rw [if_neg h] at hf
      refine lv_aload_n hx hb dX8_pass_53 rfl (lv_at hl 0 rfl) ?_
      obtain ⟨st1, e2, hf⟩ := zz_bo hf
      refine zz_callVv C (As := []) (rest := []) (zc_X8_nextTick _ _ e2) (cwV 0 hts gX8_pass_X8_nextTick rfl rfl rfl zd_X8_nextTick ⟨Nat.le_of_ble_eq_true rfl, Nat.le_of_ble_eq_true rfl⟩) hP hS 0 rfl rfl rfl hl rfl (Nat.le_of_ble_eq_true rfl) dX8_pass_54 ⟨Nat.zero_le _, Nat.zero_le _⟩ (fun H locs hP hS => ?_)
      refine lv_iinc (v := (v2 + 1)) (lv' := [(2, .int (v2 + 1)), (0, .ref (q 0)), (1, .int v1)]) hx hb dX8_pass_57 hl (k := 2) rfl (congrArg (fun z => v2 + z) (by decide)) (by decide) rfl (fun ls hl => ?_)
      refine lv_goto (tgt := 48) hx hb dX8_pass_60 (by decide) ?_
      exact ih _ _ _ _ _ _ _ hf hP hS (lv_sub hl [1, 2, 0] rfl)
def zX8_pass (v1 : Int32) (st : zz_T) : Option (Int32 × zz_T) :=
  if v1 < 1 then
    none
  else
    if v1 ≤ 144 then
      if ((st.2 0) + v1) ≤ 2880 then
        zX8_pass_48 zz_N v1 0 st
      else
        none
    else
      none
set_option maxHeartbeats 4000000 in
set_option maxRecDepth 100000 in
theorem zc_X8_pass {l : Launch} {A : Nat → Prop} {D : va_G} {cI : ClassId} {q : Nat → Nat} (v1 : Int32) (st : zz_T) (r : (Int32 × zz_T)) (hf : zX8_pass v1 st = some r) : zz_Mi l A D cI q yX8_pass wsX8_pass zr_X8_pass [.ref (q 0), .int v1] st r.1 r.2 := by
  refine zz_of (cc := cX8_pass) (nL := 3) (ret := some .int) (by decide) rfl (Nat.le_of_ble_eq_true rfl) ?_
  intro p e s m args below meth c ls C hr hP hS hl
  obtain ⟨hx, hb, hml, hown, hts⟩ := id C.1
  have hl : lv_has ls 3 [(0, .ref (q 0)), (1, .int v1)] := hl
  rw [zX8_pass] at hf
  skip
  refine lv_iload_n hx hb dX8_pass_0 rfl (lv_at hl 1 rfl) ?_
  refine lv_iconst (v := 1) hx hb dX8_pass_1 (by decide) ?_
  refine lv_icmp_lt (tgt := 12) hx hb dX8_pass_2 (by decide) (fun h => ?_) (fun h => ?_)
  · rw [if_pos h] at hf
    cases hf
  · rw [if_neg h] at hf
    refine lv_iload_n hx hb dX8_pass_5 rfl (lv_at hl 1 rfl) ?_
    refine lv_sipush (v := 144) hx hb dX8_pass_6 (by decide) ?_
    refine lv_icmp_le (tgt := 23) hx hb dX8_pass_9 (by decide) (fun h => ?_) (fun h => ?_)
    · rw [if_pos h] at hf
      refine lv_aload_n hx hb dX8_pass_23 rfl (lv_at hl 0 rfl) ?_
      refine zz_getf C zi_X8_pass_X8 hP 0 rfl rfl 9 (nm := "tick") (ds := "I") (fin := false) rfl (by decide) zk_X8_pass_70 rfl dX8_pass_24 ?_
      refine lv_iload_n hx hb dX8_pass_27 rfl (lv_at hl 1 rfl) ?_
      refine lv_iadd hx hb dX8_pass_28 ?_
      refine lv_sipush (v := 2880) hx hb dX8_pass_29 (by decide) ?_
      refine lv_icmp_le (tgt := 46) hx hb dX8_pass_32 (by decide) (fun h => ?_) (fun h => ?_)
      · rw [if_pos h] at hf
        refine lv_iconst (v := 0) hx hb dX8_pass_46 (by decide) ?_
        refine lv_istore_n (lv' := [(2, .int 0), (0, .ref (q 0)), (1, .int v1)]) hx hb dX8_pass_47 rfl hl (by decide) rfl (fun ls hl => ?_)
        exact zt_X8_pass_48 C hr zz_N _ _ _ _ _ _ _ hf hP hS (lv_sub hl [1, 2, 0] rfl)
      · rw [if_neg h] at hf
        cases hf
    · rw [if_neg h] at hf
      cases hf
/-! X8_plan PW -/
theorem zd_X8_plan : yX8_plan.cls = RX8 ∧ yX8_plan.cls ≠ "java/lang/invoke/MethodHandle" ∧ yX8_plan.cls ≠ "java/lang/invoke/VarHandle" ∧ (parseMethodDescriptor yX8_plan.desc).map (fun d => d.parameters.length) = some 2 := by decide +kernel
abbrev zr_X8_plan : Room := { frames := 5, cells := 0, slots := 0, locals := 132 }
theorem zk_X8_plan_19 : Cond.fieldLink yX8_plan.cls 19 RX8 "units" "LThirteenthDay$Units;" ∈ wsX8_plan := by decide +kernel
theorem zk_X8_plan_30 : Cond.fieldLink yX8_plan.cls 30 RX8 "trial" "LThirteenthDay$Paths;" ∈ wsX8_plan := by decide +kernel
theorem zk_X8_plan_26 : Cond.fieldLink yX8_plan.cls 26 RX8 "paths" "LThirteenthDay$Paths;" ∈ wsX8_plan := by decide +kernel
theorem zi_X8_plan_X8 : ∀ w ∈ u_ws RX8 TX8 11, w ∈ wsX8_plan := by decide +kernel
def zX8_plan (v1 : Int32) (v2 : Int32) (st : zz_T) : Option (Int32 × zz_T) :=
  if (zX7_has v1 st) = true then
    if (zX8_isNoTickToPlan v2 st) = true then
      none
    else
      (zX8_countWaitingPaths v1 st).bind fun x1 =>
      if x1 ≤ 0 then
        if (zX8_isNotPlannable v1 st) = true then
          none
        else
          zz_v (zX2_copyFrom 11 6 st) fun st3 =>
          (zX8_planUnit v1 (zX7_get v1 3 st3) v2 st3).bind fun x5 =>
          if x5.1 < 0 then
            some (x5.1, x5.2)
          else
            zz_v (zX2_copyFrom 6 11 x5.2) fun st7 =>
            some (x5.1, st7)
      else
        none
  else
    none
set_option maxHeartbeats 4000000 in
set_option maxRecDepth 100000 in
theorem zc_X8_plan {l : Launch} {A : Nat → Prop} {D : va_G} {cI : ClassId} {q : Nat → Nat} (v1 : Int32) (v2 : Int32) (st : zz_T) (r : (Int32 × zz_T)) (hf : zX8_plan v1 v2 st = some r) : zz_Mi l A D cI q yX8_plan wsX8_plan zr_X8_plan [.ref (q 0), .int v1, .int v2] st r.1 r.2 := by
  refine zz_of (cc := cX8_plan) (nL := 4) (ret := some .int) (by decide) rfl (Nat.le_of_ble_eq_true rfl) ?_
  intro p e s m args below meth c ls C hr hP hS hl
  obtain ⟨hx, hb, hml, hown, hts⟩ := id C.1
  have hl : lv_has ls 4 [(0, .ref (q 0)), (1, .int v1), (2, .int v2)] := hl
  rw [zX8_plan] at hf
  skip
  refine lv_aload_n hx hb dX8_plan_0 rfl (lv_at hl 0 rfl) ?_
  refine zz_getf C zi_X8_plan_X8 hP 0 rfl rfl 1 (nm := "units") (ds := "LThirteenthDay$Units;") (fin := true) rfl (by decide) zk_X8_plan_19 rfl dX8_plan_1 ?_
  refine lv_iload_n hx hb dX8_plan_4 rfl (lv_at hl 1 rfl) ?_
  refine zz_callVi C (As := [.int v1]) (rest := []) (zc_X7_has _ _) (cwV 1 hts gX8_plan_X7_has rfl rfl rfl zd_X7_has ⟨Nat.le_of_ble_eq_true rfl, Nat.le_of_ble_eq_true rfl⟩) hP hS 2 rfl rfl rfl hl rfl (Nat.le_of_ble_eq_true rfl) dX8_plan_5 ⟨Nat.zero_le _, Nat.zero_le _⟩ (fun H locs hP hS => ?_)
  refine lv_if_ne (tgt := 21) hx hb dX8_plan_8 (by decide) (fun h => ?_) (fun h => ?_)
  · rw [zz_if1 (zz_b1 h)] at hf
    refine lv_aload_n hx hb dX8_plan_21 rfl (lv_at hl 0 rfl) ?_
    refine lv_iload_n hx hb dX8_plan_22 rfl (lv_at hl 2 rfl) ?_
    refine zz_callVi C (As := [.int v2]) (rest := []) (zc_X8_isNoTickToPlan _ _) (cwV 1 hts gX8_plan_X8_isNoTickToPlan rfl rfl rfl zd_X8_isNoTickToPlan ⟨Nat.le_of_ble_eq_true rfl, Nat.le_of_ble_eq_true rfl⟩) hP hS 0 rfl rfl rfl hl rfl (Nat.le_of_ble_eq_true rfl) dX8_plan_23 ⟨Nat.zero_le _, Nat.zero_le _⟩ (fun H locs hP hS => ?_)
    refine lv_if_eq (tgt := 39) hx hb dX8_plan_26 (by decide) (fun h => ?_) (fun h => ?_)
    · rw [zz_if0 (zz_b0 h)] at hf
      refine lv_aload_n hx hb dX8_plan_39 rfl (lv_at hl 0 rfl) ?_
      refine lv_iload_n hx hb dX8_plan_40 rfl (lv_at hl 1 rfl) ?_
      obtain ⟨x1, e2, hf⟩ := zz_bo hf
      refine zz_callVi C (As := [.int v1]) (rest := []) (zc_X8_countWaitingPaths _ _ _ e2) (cwV 1 hts gX8_plan_X8_countWaitingPaths rfl rfl rfl zd_X8_countWaitingPaths ⟨Nat.le_of_ble_eq_true rfl, Nat.le_of_ble_eq_true rfl⟩) hP hS 0 rfl rfl rfl hl rfl (Nat.le_of_ble_eq_true rfl) dX8_plan_41 ⟨Nat.zero_le _, Nat.zero_le _⟩ (fun H locs hP hS => ?_)
      refine lv_if_le (tgt := 57) hx hb dX8_plan_44 (by decide) (fun h => ?_) (fun h => ?_)
      · rw [if_pos h] at hf
        refine lv_aload_n hx hb dX8_plan_57 rfl (lv_at hl 0 rfl) ?_
        refine lv_iload_n hx hb dX8_plan_58 rfl (lv_at hl 1 rfl) ?_
        refine zz_callVi C (As := [.int v1]) (rest := []) (zc_X8_isNotPlannable _ _) (cwV 1 hts gX8_plan_X8_isNotPlannable rfl rfl rfl zd_X8_isNotPlannable ⟨Nat.le_of_ble_eq_true rfl, Nat.le_of_ble_eq_true rfl⟩) hP hS 0 rfl rfl rfl hl rfl (Nat.le_of_ble_eq_true rfl) dX8_plan_59 ⟨Nat.zero_le _, Nat.zero_le _⟩ (fun H locs hP hS => ?_)
        refine lv_if_eq (tgt := 75) hx hb dX8_plan_62 (by decide) (fun h => ?_) (fun h => ?_)
        · rw [zz_if0 (zz_b0 h)] at hf
          refine lv_aload_n hx hb dX8_plan_75 rfl (lv_at hl 0 rfl) ?_
          refine zz_getf C zi_X8_plan_X8 hP 0 rfl rfl 3 (nm := "trial") (ds := "LThirteenthDay$Paths;") (fin := true) rfl (by decide) zk_X8_plan_30 rfl dX8_plan_76 ?_
          refine lv_aload_n hx hb dX8_plan_79 rfl (lv_at hl 0 rfl) ?_
          refine zz_getf C zi_X8_plan_X8 hP 0 rfl rfl 2 (nm := "paths") (ds := "LThirteenthDay$Paths;") (fin := true) rfl (by decide) zk_X8_plan_26 rfl dX8_plan_80 ?_
          obtain ⟨st3, e4, hf⟩ := zz_vo hf
          refine zz_callVv C (As := [.ref (q 3)]) (rest := []) (zz_Mv_e e4 (zc_X2_copyFrom 4 11 (by decide) 3 6 (by decide) (by decide) _)) (cwV 1 hts gX8_plan_X2_copyFrom rfl rfl rfl zd_X2_copyFrom ⟨Nat.le_of_ble_eq_true rfl, Nat.le_of_ble_eq_true rfl⟩) hP hS 4 rfl rfl rfl hl rfl (Nat.le_of_ble_eq_true rfl) dX8_plan_83 ⟨Nat.zero_le _, Nat.zero_le _⟩ (fun H locs hP hS => ?_)
          refine lv_aload_n hx hb dX8_plan_86 rfl (lv_at hl 0 rfl) ?_
          refine lv_iload_n hx hb dX8_plan_87 rfl (lv_at hl 1 rfl) ?_
          refine lv_aload_n hx hb dX8_plan_88 rfl (lv_at hl 0 rfl) ?_
          refine zz_getf C zi_X8_plan_X8 hP 0 rfl rfl 1 (nm := "units") (ds := "LThirteenthDay$Units;") (fin := true) rfl (by decide) zk_X8_plan_19 rfl dX8_plan_89 ?_
          refine lv_iload_n hx hb dX8_plan_92 rfl (lv_at hl 1 rfl) ?_
          refine lv_iconst (v := 3) hx hb dX8_plan_93 (by decide) ?_
          refine zz_callVi C (As := [.int v1, .int 3]) (rest := [.int v1, .ref (q 0)]) (zc_X7_get _ _ _) (cwV 2 hts gX8_plan_X7_get rfl rfl rfl zd_X7_get ⟨Nat.le_of_ble_eq_true rfl, Nat.le_of_ble_eq_true rfl⟩) hP hS 2 rfl rfl rfl hl rfl (Nat.le_of_ble_eq_true rfl) dX8_plan_94 ⟨Nat.zero_le _, Nat.zero_le _⟩ (fun H locs hP hS => ?_)
          refine lv_iload_n hx hb dX8_plan_97 rfl (lv_at hl 2 rfl) ?_
          obtain ⟨x5, e6, hf⟩ := zz_bo hf
          refine zz_callVi C (As := [.int v1, .int (zX7_get v1 3 st3), .int v2]) (rest := []) (zc_X8_planUnit _ _ _ _ _ e6) (cwV 3 hts gX8_plan_X8_planUnit rfl rfl rfl zd_X8_planUnit ⟨Nat.le_of_ble_eq_true rfl, Nat.le_of_ble_eq_true rfl⟩) hP hS 0 rfl rfl rfl hl rfl (Nat.le_of_ble_eq_true rfl) dX8_plan_98 ⟨Nat.zero_le _, Nat.zero_le _⟩ (fun H locs hP hS => ?_)
          refine lv_istore_n (lv' := [(3, .int x5.1), (0, .ref (q 0)), (1, .int v1), (2, .int v2)]) hx hb dX8_plan_101 rfl hl (by decide) rfl (fun ls hl => ?_)
          refine lv_iload_n hx hb dX8_plan_102 rfl (lv_at hl 0 rfl) ?_
          refine lv_if_lt (tgt := 117) hx hb dX8_plan_103 (by decide) (fun h => ?_) (fun h => ?_)
          · rw [if_pos h] at hf
            refine lv_iload_n hx hb dX8_plan_117 rfl (lv_at hl 0 rfl) ?_
            rw [← (Option.some.inj hf)]
            exact zz_reti C hr hP hS dX8_plan_118
          · rw [if_neg h] at hf
            refine lv_aload_n hx hb dX8_plan_106 rfl (lv_at hl 1 rfl) ?_
            refine zz_getf C zi_X8_plan_X8 hP 0 rfl rfl 2 (nm := "paths") (ds := "LThirteenthDay$Paths;") (fin := true) rfl (by decide) zk_X8_plan_26 rfl dX8_plan_107 ?_
            refine lv_aload_n hx hb dX8_plan_110 rfl (lv_at hl 1 rfl) ?_
            refine zz_getf C zi_X8_plan_X8 hP 0 rfl rfl 3 (nm := "trial") (ds := "LThirteenthDay$Paths;") (fin := true) rfl (by decide) zk_X8_plan_30 rfl dX8_plan_111 ?_
            obtain ⟨st7, e8, hf⟩ := zz_vo hf
            refine zz_callVv C (As := [.ref (q 4)]) (rest := []) (zz_Mv_e e8 (zc_X2_copyFrom 3 6 (by decide) 4 11 (by decide) (by decide) _)) (cwV 1 hts gX8_plan_X2_copyFrom rfl rfl rfl zd_X2_copyFrom ⟨Nat.le_of_ble_eq_true rfl, Nat.le_of_ble_eq_true rfl⟩) hP hS 3 rfl rfl rfl hl rfl (Nat.le_of_ble_eq_true rfl) dX8_plan_114 ⟨Nat.zero_le _, Nat.zero_le _⟩ (fun H locs hP hS => ?_)
            refine lv_iload_n hx hb dX8_plan_117 rfl (lv_at hl 0 rfl) ?_
            rw [← (Option.some.inj hf)]
            exact zz_reti C hr hP hS dX8_plan_118
        · rw [zz_if1 (zz_b1 h)] at hf
          cases hf
      · rw [if_neg h] at hf
        cases hf
    · rw [zz_if1 (zz_b1 h)] at hf
      cases hf
  · rw [zz_if0 (zz_b0 h)] at hf
    cases hf
/-! X8_railhead PW -/
theorem zd_X8_railhead : yX8_railhead.cls = RX8 ∧ yX8_railhead.cls ≠ "java/lang/invoke/MethodHandle" ∧ yX8_railhead.cls ≠ "java/lang/invoke/VarHandle" ∧ (parseMethodDescriptor yX8_railhead.desc).map (fun d => d.parameters.length) = some 3 := by decide +kernel
abbrev zr_X8_railhead : Room := { frames := 3, cells := 0, slots := 0, locals := 67 }
theorem zk_X8_railhead_10 : Cond.fieldLink yX8_railhead.cls 10 RX8 "land" "LThirteenthDay$Land;" ∈ wsX8_railhead := by decide +kernel
theorem zk_X8_railhead_26 : Cond.fieldLink yX8_railhead.cls 26 RX8 "paths" "LThirteenthDay$Paths;" ∈ wsX8_railhead := by decide +kernel
theorem zk_X8_railhead_36 : Cond.fieldLink yX8_railhead.cls 36 RX8 "trains" "LThirteenthDay$Trains;" ∈ wsX8_railhead := by decide +kernel
theorem zk_X8_railhead_50 : Cond.fieldLink yX8_railhead.cls 50 RX8 "sectors" "LThirteenthDay$Sectors;" ∈ wsX8_railhead := by decide +kernel
theorem zi_X8_railhead_X8 : ∀ w ∈ u_ws RX8 TX8 11, w ∈ wsX8_railhead := by decide +kernel
def zX8_railhead (v1 : Int32) (v2 : Int32) (v3 : Int32) (st : zz_T) : Option (Int32 × zz_T) :=
  if (zX8_isNoSector v1 st) = true then
    none
  else
    if (zX1_hasStation v2 st) = true then
      if v3 < 6 then
        none
      else
        if v3 ≤ 144 then
          (zX2_hasFor 6 v1 st).bind fun x1 =>
          if x1 = true then
            none
          else
            (zX6_hasFor v1 st).bind fun x3 =>
            if x3 = true then
              none
            else
              zz_v (zX3_get v1 0 st) fun w5 =>
              zz_v (zX3_set v1 0 v2 st) fun st6 =>
              zz_v (zX3_set v1 1 v3 st6) fun st8 =>
              some (w5, st8)
        else
          none
    else
      none
set_option maxHeartbeats 4000000 in
set_option maxRecDepth 100000 in
theorem zc_X8_railhead {l : Launch} {A : Nat → Prop} {D : va_G} {cI : ClassId} {q : Nat → Nat} (v1 : Int32) (v2 : Int32) (v3 : Int32) (st : zz_T) (r : (Int32 × zz_T)) (hf : zX8_railhead v1 v2 v3 st = some r) : zz_Mi l A D cI q yX8_railhead wsX8_railhead zr_X8_railhead [.ref (q 0), .int v1, .int v2, .int v3] st r.1 r.2 := by
  refine zz_of (cc := cX8_railhead) (nL := 5) (ret := some .int) (by decide) rfl (Nat.le_of_ble_eq_true rfl) ?_
  intro p e s m args below meth c ls C hr hP hS hl
  obtain ⟨hx, hb, hml, hown, hts⟩ := id C.1
  have hl : lv_has ls 5 [(0, .ref (q 0)), (1, .int v1), (2, .int v2), (3, .int v3)] := hl
  rw [zX8_railhead] at hf
  skip
  refine lv_iload_n hx hb dX8_railhead_0 rfl (lv_at hl 1 rfl) ?_
  refine zz_callSi C (As := [.int v1]) (rest := []) (zc_X8_isNoSector _ _) (va_cwS 1 hts gX8_railhead_X8_isNoSector rfl rfl rfl zd_X8_isNoSector.2 ⟨Nat.le_of_ble_eq_true rfl, Nat.le_of_ble_eq_true rfl⟩) hP hS rfl hl rfl (Nat.le_of_ble_eq_true rfl) dX8_railhead_1 ⟨Nat.zero_le _, Nat.zero_le _⟩ (fun H locs hP hS => ?_)
  refine lv_if_eq (tgt := 17) hx hb dX8_railhead_4 (by decide) (fun h => ?_) (fun h => ?_)
  · rw [zz_if0 (zz_b0 h)] at hf
    refine lv_aload_n hx hb dX8_railhead_17 rfl (lv_at hl 0 rfl) ?_
    refine zz_getf C zi_X8_railhead_X8 hP 0 rfl rfl 0 (nm := "land") (ds := "LThirteenthDay$Land;") (fin := true) rfl (by decide) zk_X8_railhead_10 rfl dX8_railhead_18 ?_
    refine lv_iload_n hx hb dX8_railhead_21 rfl (lv_at hl 2 rfl) ?_
    refine zz_callVi C (As := [.int v2]) (rest := []) (zc_X1_hasStation _ _) (cwV 1 hts gX8_railhead_X1_hasStation rfl rfl rfl zd_X1_hasStation ⟨Nat.le_of_ble_eq_true rfl, Nat.le_of_ble_eq_true rfl⟩) hP hS 1 rfl rfl rfl hl rfl (Nat.le_of_ble_eq_true rfl) dX8_railhead_22 ⟨Nat.zero_le _, Nat.zero_le _⟩ (fun H locs hP hS => ?_)
    refine lv_if_ne (tgt := 38) hx hb dX8_railhead_25 (by decide) (fun h => ?_) (fun h => ?_)
    · rw [zz_if1 (zz_b1 h)] at hf
      refine lv_iload_n hx hb dX8_railhead_38 rfl (lv_at hl 3 rfl) ?_
      refine lv_bipush (v := 6) hx hb dX8_railhead_39 (by decide) ?_
      refine lv_icmp_lt (tgt := 51) hx hb dX8_railhead_41 (by decide) (fun h => ?_) (fun h => ?_)
      · rw [if_pos h] at hf
        cases hf
      · rw [if_neg h] at hf
        refine lv_iload_n hx hb dX8_railhead_44 rfl (lv_at hl 3 rfl) ?_
        refine lv_sipush (v := 144) hx hb dX8_railhead_45 (by decide) ?_
        refine lv_icmp_le (tgt := 61) hx hb dX8_railhead_48 (by decide) (fun h => ?_) (fun h => ?_)
        · rw [if_pos h] at hf
          refine lv_aload_n hx hb dX8_railhead_61 rfl (lv_at hl 0 rfl) ?_
          refine zz_getf C zi_X8_railhead_X8 hP 0 rfl rfl 2 (nm := "paths") (ds := "LThirteenthDay$Paths;") (fin := true) rfl (by decide) zk_X8_railhead_26 rfl dX8_railhead_62 ?_
          refine lv_iload_n hx hb dX8_railhead_65 rfl (lv_at hl 1 rfl) ?_
          obtain ⟨x1, e2, hf⟩ := zz_bo hf
          refine zz_callVi C (As := [.int v1]) (rest := []) (zc_X2_hasFor 3 6 (by decide) _ _ _ e2) (cwV 1 hts gX8_railhead_X2_hasFor rfl rfl rfl zd_X2_hasFor ⟨Nat.le_of_ble_eq_true rfl, Nat.le_of_ble_eq_true rfl⟩) hP hS 3 rfl rfl rfl hl rfl (Nat.le_of_ble_eq_true rfl) dX8_railhead_66 ⟨Nat.zero_le _, Nat.zero_le _⟩ (fun H locs hP hS => ?_)
          refine lv_if_ne (tgt := 83) hx hb dX8_railhead_69 (by decide) (fun h => ?_) (fun h => ?_)
          · rw [zz_if1 (zz_b1 h)] at hf
            cases hf
          · rw [zz_if0 (zz_b0 h)] at hf
            refine lv_aload_n hx hb dX8_railhead_72 rfl (lv_at hl 0 rfl) ?_
            refine zz_getf C zi_X8_railhead_X8 hP 0 rfl rfl 4 (nm := "trains") (ds := "LThirteenthDay$Trains;") (fin := true) rfl (by decide) zk_X8_railhead_36 rfl dX8_railhead_73 ?_
            refine lv_iload_n hx hb dX8_railhead_76 rfl (lv_at hl 1 rfl) ?_
            obtain ⟨x3, e4, hf⟩ := zz_bo hf
            refine zz_callVi C (As := [.int v1]) (rest := []) (zc_X6_hasFor _ _ _ e4) (cwV 1 hts gX8_railhead_X6_hasFor rfl rfl rfl zd_X6_hasFor ⟨Nat.le_of_ble_eq_true rfl, Nat.le_of_ble_eq_true rfl⟩) hP hS 5 rfl rfl rfl hl rfl (Nat.le_of_ble_eq_true rfl) dX8_railhead_77 ⟨Nat.zero_le _, Nat.zero_le _⟩ (fun H locs hP hS => ?_)
            refine lv_if_eq (tgt := 93) hx hb dX8_railhead_80 (by decide) (fun h => ?_) (fun h => ?_)
            · rw [zz_if0 (zz_b0 h)] at hf
              refine lv_aload_n hx hb dX8_railhead_93 rfl (lv_at hl 0 rfl) ?_
              refine zz_getf C zi_X8_railhead_X8 hP 0 rfl rfl 6 (nm := "sectors") (ds := "LThirteenthDay$Sectors;") (fin := true) rfl (by decide) zk_X8_railhead_50 rfl dX8_railhead_94 ?_
              refine lv_iload_n hx hb dX8_railhead_97 rfl (lv_at hl 1 rfl) ?_
              refine lv_iconst (v := 0) hx hb dX8_railhead_98 (by decide) ?_
              refine zz_callVi C (As := [.int v1, .int 0]) (rest := []) (zc_X3_get _ _ _) (cwV 2 hts gX8_railhead_X3_get rfl rfl rfl zd_X3_get ⟨Nat.le_of_ble_eq_true rfl, Nat.le_of_ble_eq_true rfl⟩) hP hS 7 rfl rfl rfl hl rfl (Nat.le_of_ble_eq_true rfl) dX8_railhead_99 ⟨Nat.zero_le _, Nat.zero_le _⟩ (fun H locs hP hS => ?_)
              refine lv_topi (fun w5 e5 => ?_)
              replace hf := zz_vi hf e5
              refine lv_istore (lv' := [(4, .int w5), (0, .ref (q 0)), (1, .int v1), (2, .int v2), (3, .int v3)]) hx hb dX8_railhead_102 hl (by decide) rfl (fun ls hl => ?_)
              refine lv_aload_n hx hb dX8_railhead_104 rfl (lv_at hl 1 rfl) ?_
              refine zz_getf C zi_X8_railhead_X8 hP 0 rfl rfl 6 (nm := "sectors") (ds := "LThirteenthDay$Sectors;") (fin := true) rfl (by decide) zk_X8_railhead_50 rfl dX8_railhead_105 ?_
              refine lv_iload_n hx hb dX8_railhead_108 rfl (lv_at hl 2 rfl) ?_
              refine lv_iconst (v := 0) hx hb dX8_railhead_109 (by decide) ?_
              refine lv_iload_n hx hb dX8_railhead_110 rfl (lv_at hl 3 rfl) ?_
              obtain ⟨st6, e7, hf⟩ := zz_vo hf
              refine zz_callVv C (As := [.int v1, .int 0, .int v2]) (rest := []) (zz_Mv_e e7 (zc_X3_set _ _ _ _)) (cwV 3 hts gX8_railhead_X3_set rfl rfl rfl zd_X3_set ⟨Nat.le_of_ble_eq_true rfl, Nat.le_of_ble_eq_true rfl⟩) hP hS 7 rfl rfl rfl hl rfl (Nat.le_of_ble_eq_true rfl) dX8_railhead_111 ⟨Nat.zero_le _, Nat.zero_le _⟩ (fun H locs hP hS => ?_)
              refine lv_aload_n hx hb dX8_railhead_114 rfl (lv_at hl 1 rfl) ?_
              refine zz_getf C zi_X8_railhead_X8 hP 0 rfl rfl 6 (nm := "sectors") (ds := "LThirteenthDay$Sectors;") (fin := true) rfl (by decide) zk_X8_railhead_50 rfl dX8_railhead_115 ?_
              refine lv_iload_n hx hb dX8_railhead_118 rfl (lv_at hl 2 rfl) ?_
              refine lv_iconst (v := 1) hx hb dX8_railhead_119 (by decide) ?_
              refine lv_iload_n hx hb dX8_railhead_120 rfl (lv_at hl 4 rfl) ?_
              obtain ⟨st8, e9, hf⟩ := zz_vo hf
              refine zz_callVv C (As := [.int v1, .int 1, .int v3]) (rest := []) (zz_Mv_e e9 (zc_X3_set _ _ _ _)) (cwV 3 hts gX8_railhead_X3_set rfl rfl rfl zd_X3_set ⟨Nat.le_of_ble_eq_true rfl, Nat.le_of_ble_eq_true rfl⟩) hP hS 7 rfl rfl rfl hl rfl (Nat.le_of_ble_eq_true rfl) dX8_railhead_121 ⟨Nat.zero_le _, Nat.zero_le _⟩ (fun H locs hP hS => ?_)
              refine lv_iload hx hb dX8_railhead_124 (lv_at hl 0 rfl) ?_
              rw [← (Option.some.inj hf)]
              exact zz_reti C hr hP hS dX8_railhead_126
            · rw [zz_if1 (zz_b1 h)] at hf
              cases hf
        · rw [if_neg h] at hf
          cases hf
    · rw [zz_if0 (zz_b0 h)] at hf
      cases hf
  · rw [zz_if1 (zz_b1 h)] at hf
    cases hf
/-! X8_stop PW -/
theorem zd_X8_stop : yX8_stop.cls = RX8 ∧ yX8_stop.cls ≠ "java/lang/invoke/MethodHandle" ∧ yX8_stop.cls ≠ "java/lang/invoke/VarHandle" ∧ (parseMethodDescriptor yX8_stop.desc).map (fun d => d.parameters.length) = some 1 := by decide +kernel
abbrev zr_X8_stop : Room := { frames := 4, cells := 0, slots := 0, locals := 94 }
theorem zk_X8_stop_19 : Cond.fieldLink yX8_stop.cls 19 RX8 "units" "LThirteenthDay$Units;" ∈ wsX8_stop := by decide +kernel
theorem zk_X8_stop_70 : Cond.fieldLink yX8_stop.cls 70 RX8 "tick" "I" ∈ wsX8_stop := by decide +kernel
theorem zi_X8_stop_X8 : ∀ w ∈ u_ws RX8 TX8 11, w ∈ wsX8_stop := by decide +kernel
def zX8_stop (v1 : Int32) (st : zz_T) : Option (Int32 × zz_T) :=
  if (zX7_has v1 st) = true then
    zz_v (zX7_get v1 4 st) fun w1 =>
    if w1 = 0 then
      none
    else
      if w1 = 3 then
        none
      else
        if (zX7_get v1 11 st) = (-1) then
          (zX8_wireTicks v1 st).bind fun x2 =>
          zz_v ((st.2 0) + x2) fun w4 =>
          zz_v (zX7_set v1 11 w4 st) fun st5 =>
          some (w4, st5)
        else
          none
  else
    none
set_option maxHeartbeats 4000000 in
set_option maxRecDepth 100000 in
theorem zc_X8_stop {l : Launch} {A : Nat → Prop} {D : va_G} {cI : ClassId} {q : Nat → Nat} (v1 : Int32) (st : zz_T) (r : (Int32 × zz_T)) (hf : zX8_stop v1 st = some r) : zz_Mi l A D cI q yX8_stop wsX8_stop zr_X8_stop [.ref (q 0), .int v1] st r.1 r.2 := by
  refine zz_of (cc := cX8_stop) (nL := 4) (ret := some .int) (by decide) rfl (Nat.le_of_ble_eq_true rfl) ?_
  intro p e s m args below meth c ls C hr hP hS hl
  obtain ⟨hx, hb, hml, hown, hts⟩ := id C.1
  have hl : lv_has ls 4 [(0, .ref (q 0)), (1, .int v1)] := hl
  rw [zX8_stop] at hf
  skip
  refine lv_aload_n hx hb dX8_stop_0 rfl (lv_at hl 0 rfl) ?_
  refine zz_getf C zi_X8_stop_X8 hP 0 rfl rfl 1 (nm := "units") (ds := "LThirteenthDay$Units;") (fin := true) rfl (by decide) zk_X8_stop_19 rfl dX8_stop_1 ?_
  refine lv_iload_n hx hb dX8_stop_4 rfl (lv_at hl 1 rfl) ?_
  refine zz_callVi C (As := [.int v1]) (rest := []) (zc_X7_has _ _) (cwV 1 hts gX8_stop_X7_has rfl rfl rfl zd_X7_has ⟨Nat.le_of_ble_eq_true rfl, Nat.le_of_ble_eq_true rfl⟩) hP hS 2 rfl rfl rfl hl rfl (Nat.le_of_ble_eq_true rfl) dX8_stop_5 ⟨Nat.zero_le _, Nat.zero_le _⟩ (fun H locs hP hS => ?_)
  refine lv_if_ne (tgt := 21) hx hb dX8_stop_8 (by decide) (fun h => ?_) (fun h => ?_)
  · rw [zz_if1 (zz_b1 h)] at hf
    refine lv_aload_n hx hb dX8_stop_21 rfl (lv_at hl 0 rfl) ?_
    refine zz_getf C zi_X8_stop_X8 hP 0 rfl rfl 1 (nm := "units") (ds := "LThirteenthDay$Units;") (fin := true) rfl (by decide) zk_X8_stop_19 rfl dX8_stop_22 ?_
    refine lv_iload_n hx hb dX8_stop_25 rfl (lv_at hl 1 rfl) ?_
    refine lv_iconst (v := 4) hx hb dX8_stop_26 (by decide) ?_
    refine zz_callVi C (As := [.int v1, .int 4]) (rest := []) (zc_X7_get _ _ _) (cwV 2 hts gX8_stop_X7_get rfl rfl rfl zd_X7_get ⟨Nat.le_of_ble_eq_true rfl, Nat.le_of_ble_eq_true rfl⟩) hP hS 2 rfl rfl rfl hl rfl (Nat.le_of_ble_eq_true rfl) dX8_stop_27 ⟨Nat.zero_le _, Nat.zero_le _⟩ (fun H locs hP hS => ?_)
    refine lv_topi (fun w1 e1 => ?_)
    replace hf := zz_vi hf e1
    refine lv_istore_n (lv' := [(2, .int w1), (0, .ref (q 0)), (1, .int v1)]) hx hb dX8_stop_30 rfl hl (by decide) rfl (fun ls hl => ?_)
    refine lv_iload_n hx hb dX8_stop_31 rfl (lv_at hl 0 rfl) ?_
    refine lv_if_eq (tgt := 40) hx hb dX8_stop_32 (by decide) (fun h => ?_) (fun h => ?_)
    · rw [if_pos h] at hf
      cases hf
    · rw [if_neg h] at hf
      refine lv_iload_n hx hb dX8_stop_35 rfl (lv_at hl 0 rfl) ?_
      refine lv_iconst (v := 3) hx hb dX8_stop_36 (by decide) ?_
      refine lv_icmp_ne (tgt := 50) hx hb dX8_stop_37 (by decide) (fun h => ?_) (fun h => ?_)
      · rw [if_neg h] at hf
        refine lv_aload_n hx hb dX8_stop_50 rfl (lv_at hl 1 rfl) ?_
        refine zz_getf C zi_X8_stop_X8 hP 0 rfl rfl 1 (nm := "units") (ds := "LThirteenthDay$Units;") (fin := true) rfl (by decide) zk_X8_stop_19 rfl dX8_stop_51 ?_
        refine lv_iload_n hx hb dX8_stop_54 rfl (lv_at hl 2 rfl) ?_
        refine lv_bipush (v := 11) hx hb dX8_stop_55 (by decide) ?_
        refine zz_callVi C (As := [.int v1, .int 11]) (rest := []) (zc_X7_get _ _ _) (cwV 2 hts gX8_stop_X7_get rfl rfl rfl zd_X7_get ⟨Nat.le_of_ble_eq_true rfl, Nat.le_of_ble_eq_true rfl⟩) hP hS 2 rfl rfl rfl hl rfl (Nat.le_of_ble_eq_true rfl) dX8_stop_57 ⟨Nat.zero_le _, Nat.zero_le _⟩ (fun H locs hP hS => ?_)
        refine lv_iconst (v := (-1)) hx hb dX8_stop_60 (by decide) ?_
        refine lv_icmp_eq (tgt := 74) hx hb dX8_stop_61 (by decide) (fun h => ?_) (fun h => ?_)
        · rw [if_pos h] at hf
          refine lv_aload_n hx hb dX8_stop_74 rfl (lv_at hl 1 rfl) ?_
          refine zz_getf C zi_X8_stop_X8 hP 0 rfl rfl 9 (nm := "tick") (ds := "I") (fin := false) rfl (by decide) zk_X8_stop_70 rfl dX8_stop_75 ?_
          refine lv_aload_n hx hb dX8_stop_78 rfl (lv_at hl 1 rfl) ?_
          refine lv_iload_n hx hb dX8_stop_79 rfl (lv_at hl 2 rfl) ?_
          obtain ⟨x2, e3, hf⟩ := zz_bo hf
          refine zz_callVi C (As := [.int v1]) (rest := [.int (st.2 0)]) (zc_X8_wireTicks _ _ _ e3) (cwV 1 hts gX8_stop_X8_wireTicks rfl rfl rfl zd_X8_wireTicks ⟨Nat.le_of_ble_eq_true rfl, Nat.le_of_ble_eq_true rfl⟩) hP hS 0 rfl rfl rfl hl rfl (Nat.le_of_ble_eq_true rfl) dX8_stop_80 ⟨Nat.zero_le _, Nat.zero_le _⟩ (fun H locs hP hS => ?_)
          refine lv_iadd hx hb dX8_stop_83 ?_
          refine lv_topi (fun w4 e4 => ?_)
          replace hf := zz_vi hf e4
          refine lv_istore_n (lv' := [(3, .int w4), (2, .int w1), (0, .ref (q 0)), (1, .int v1)]) hx hb dX8_stop_84 rfl hl (by decide) rfl (fun ls hl => ?_)
          refine lv_aload_n hx hb dX8_stop_85 rfl (lv_at hl 2 rfl) ?_
          refine zz_getf C zi_X8_stop_X8 hP 0 rfl rfl 1 (nm := "units") (ds := "LThirteenthDay$Units;") (fin := true) rfl (by decide) zk_X8_stop_19 rfl dX8_stop_86 ?_
          refine lv_iload_n hx hb dX8_stop_89 rfl (lv_at hl 3 rfl) ?_
          refine lv_bipush (v := 11) hx hb dX8_stop_90 (by decide) ?_
          refine lv_iload_n hx hb dX8_stop_92 rfl (lv_at hl 0 rfl) ?_
          obtain ⟨st5, e6, hf⟩ := zz_vo hf
          refine zz_callVv C (As := [.int v1, .int 11, .int w4]) (rest := []) (zz_Mv_e e6 (zc_X7_set _ _ _ _)) (cwV 3 hts gX8_stop_X7_set rfl rfl rfl zd_X7_set ⟨Nat.le_of_ble_eq_true rfl, Nat.le_of_ble_eq_true rfl⟩) hP hS 2 rfl rfl rfl hl rfl (Nat.le_of_ble_eq_true rfl) dX8_stop_93 ⟨Nat.zero_le _, Nat.zero_le _⟩ (fun H locs hP hS => ?_)
          refine lv_iload_n hx hb dX8_stop_96 rfl (lv_at hl 0 rfl) ?_
          rw [← (Option.some.inj hf)]
          exact zz_reti C hr hP hS dX8_stop_97
        · rw [if_neg h] at hf
          cases hf
      · rw [if_pos h] at hf
        cases hf
  · rw [zz_if0 (zz_b0 h)] at hf
    cases hf
/-! X8_supply PW -/
theorem zd_X8_supply : yX8_supply.cls = RX8 ∧ yX8_supply.cls ≠ "java/lang/invoke/MethodHandle" ∧ yX8_supply.cls ≠ "java/lang/invoke/VarHandle" ∧ (parseMethodDescriptor yX8_supply.desc).map (fun d => d.parameters.length) = some 2 := by decide +kernel
abbrev zr_X8_supply : Room := { frames := 4, cells := 0, slots := 0, locals := 102 }
theorem zk_X8_supply_50 : Cond.fieldLink yX8_supply.cls 50 RX8 "sectors" "LThirteenthDay$Sectors;" ∈ wsX8_supply := by decide +kernel
theorem zk_X8_supply_43 : Cond.fieldLink yX8_supply.cls 43 RX8 "supplies" "LThirteenthDay$Supplies;" ∈ wsX8_supply := by decide +kernel
theorem zk_X8_supply_30 : Cond.fieldLink yX8_supply.cls 30 RX8 "trial" "LThirteenthDay$Paths;" ∈ wsX8_supply := by decide +kernel
theorem zk_X8_supply_26 : Cond.fieldLink yX8_supply.cls 26 RX8 "paths" "LThirteenthDay$Paths;" ∈ wsX8_supply := by decide +kernel
theorem zk_X8_supply_10 : Cond.fieldLink yX8_supply.cls 10 RX8 "land" "LThirteenthDay$Land;" ∈ wsX8_supply := by decide +kernel
theorem zi_X8_supply_X8 : ∀ w ∈ u_ws RX8 TX8 11, w ∈ wsX8_supply := by decide +kernel
def zX8_supply_161 (v1 : Int32) (v3 : Int32) (k0 : Int32) (st : zz_T) : Option (Int32 × zz_T) :=
  if k0 < 0 then
    some (k0, st)
  else
    zz_v (zX2_copyFrom 6 11 st) fun st10 =>
    zz_v (zX4_send v3 v1 st10) fun st12 =>
    some (k0, st12)
set_option maxHeartbeats 4000000 in
set_option maxRecDepth 100000 in
theorem zt_X8_supply_161 {l : Launch} {A : Nat → Prop} {D : va_G} {cI : ClassId} {q : Nat → Nat} {p : Program} {e : Env} {s : State} {m : MethodId} {args : Array Value} {below : List Frame} {meth : Method} {c : Code} (C : zz_C A D cI q p s m args meth c cX8_supply 7 wsX8_supply yX8_supply.cls) (hr : meth.sig.returnType = some .int) : ∀ (v1 : Int32) (v3 : Int32) (k0 : Int32) (st : zz_T) (H : Heap) (locs : List Loc) (ls : Array Slot) (r : (Int32 × zz_T)), zX8_supply_161 v1 v3 k0 st = some r → va_P D vwCl (zz_c q cI st) H → va_S A s.heap H locs → lv_has ls 7 [(0, .ref (q 0)), (1, .int v1), (3, .int v3)] → W p l e zr_X8_supply s m args below meth c H locs 0 0 (zz_Qi A D cI q r.1 r.2 below args s) (F0 m 161 ls [.int k0]) := by
  obtain ⟨hx, hb, hml, hown, hts⟩ := id C.1
  intro v1 v3 k0 st H locs ls r hf hP hS hl
  rw [zX8_supply_161] at hf
  refine lv_istore (lv' := [(6, .int k0), (0, .ref (q 0)), (1, .int v1), (3, .int v3)]) hx hb dX8_supply_161 hl (by decide) rfl (fun ls hl => ?_)
  refine lv_iload hx hb dX8_supply_163 (lv_at hl 0 rfl) ?_
  refine lv_if_lt (tgt := 188) hx hb dX8_supply_165 (by decide) (fun h => ?_) (fun h => ?_)
  · rw [if_pos h] at hf
    refine lv_iload hx hb dX8_supply_188 (lv_at hl 0 rfl) ?_
    rw [← (Option.some.inj hf)]
    exact zz_reti C hr hP hS dX8_supply_190
  · rw [if_neg h] at hf
    refine lv_aload_n hx hb dX8_supply_168 rfl (lv_at hl 1 rfl) ?_
    refine zz_getf C zi_X8_supply_X8 hP 0 rfl rfl 2 (nm := "paths") (ds := "LThirteenthDay$Paths;") (fin := true) rfl (by decide) zk_X8_supply_26 rfl dX8_supply_169 ?_
    refine lv_aload_n hx hb dX8_supply_172 rfl (lv_at hl 1 rfl) ?_
    refine zz_getf C zi_X8_supply_X8 hP 0 rfl rfl 3 (nm := "trial") (ds := "LThirteenthDay$Paths;") (fin := true) rfl (by decide) zk_X8_supply_30 rfl dX8_supply_173 ?_
    obtain ⟨st10, e11, hf⟩ := zz_vo hf
    refine zz_callVv C (As := [.ref (q 4)]) (rest := []) (zz_Mv_e e11 (zc_X2_copyFrom 3 6 (by decide) 4 11 (by decide) (by decide) _)) (cwV 1 hts gX8_supply_X2_copyFrom rfl rfl rfl zd_X2_copyFrom ⟨Nat.le_of_ble_eq_true rfl, Nat.le_of_ble_eq_true rfl⟩) hP hS 3 rfl rfl rfl hl rfl (Nat.le_of_ble_eq_true rfl) dX8_supply_176 ⟨Nat.zero_le _, Nat.zero_le _⟩ (fun H locs hP hS => ?_)
    refine lv_aload_n hx hb dX8_supply_179 rfl (lv_at hl 1 rfl) ?_
    refine zz_getf C zi_X8_supply_X8 hP 0 rfl rfl 5 (nm := "supplies") (ds := "LThirteenthDay$Supplies;") (fin := true) rfl (by decide) zk_X8_supply_43 rfl dX8_supply_180 ?_
    refine lv_iload_n hx hb dX8_supply_183 rfl (lv_at hl 3 rfl) ?_
    refine lv_iload_n hx hb dX8_supply_184 rfl (lv_at hl 2 rfl) ?_
    obtain ⟨st12, e13, hf⟩ := zz_vo hf
    refine zz_callVv C (As := [.int v3, .int v1]) (rest := []) (zz_Mv_e e13 (zc_X4_send _ _ _)) (cwV 2 hts gX8_supply_X4_send rfl rfl rfl zd_X4_send ⟨Nat.le_of_ble_eq_true rfl, Nat.le_of_ble_eq_true rfl⟩) hP hS 6 rfl rfl rfl hl rfl (Nat.le_of_ble_eq_true rfl) dX8_supply_185 ⟨Nat.zero_le _, Nat.zero_le _⟩ (fun H locs hP hS => ?_)
    refine lv_iload hx hb dX8_supply_188 (lv_at hl 0 rfl) ?_
    rw [← (Option.some.inj hf)]
    exact zz_reti C hr hP hS dX8_supply_190
def zX8_supply (v1 : Int32) (v2 : Int32) (st : zz_T) : Option (Int32 × zz_T) :=
  if (zX8_isNoSector v1 st) = true then
    none
  else
    if (zX8_isNoTickToPlan v2 st) = true then
      none
    else
      if (zX3_get v1 0 st) = (-1) then
        none
      else
        (zX4_freeRow st).bind fun x1 =>
        if x1 = (-1) then
          none
        else
          zz_v (zX2_slotOfSupply x1 st) fun w3 =>
          zz_v (zX2_copyFrom 11 6 st) fun st4 =>
          zz_v (zX2_describe 11 w3 v1 (zX3_get v1 0 st4) 3 st4) fun st6 =>
          (zX2_lay 11 w3 0 st6).bind fun x8 =>
          if x8.1 = true then
            (zX2_findStart 11 w3 v2 (v2 + 288) x8.2).bind fun x14 =>
            zX8_supply_161 v1 x1 x14.1 x14.2
          else
            zX8_supply_161 v1 x1 (-2) x8.2
set_option maxHeartbeats 4000000 in
set_option maxRecDepth 100000 in
theorem zc_X8_supply {l : Launch} {A : Nat → Prop} {D : va_G} {cI : ClassId} {q : Nat → Nat} (v1 : Int32) (v2 : Int32) (st : zz_T) (r : (Int32 × zz_T)) (hf : zX8_supply v1 v2 st = some r) : zz_Mi l A D cI q yX8_supply wsX8_supply zr_X8_supply [.ref (q 0), .int v1, .int v2] st r.1 r.2 := by
  refine zz_of (cc := cX8_supply) (nL := 7) (ret := some .int) (by decide) rfl (Nat.le_of_ble_eq_true rfl) ?_
  intro p e s m args below meth c ls C hr hP hS hl
  obtain ⟨hx, hb, hml, hown, hts⟩ := id C.1
  have hl : lv_has ls 7 [(0, .ref (q 0)), (1, .int v1), (2, .int v2)] := hl
  rw [zX8_supply] at hf
  skip
  refine lv_iload_n hx hb dX8_supply_0 rfl (lv_at hl 1 rfl) ?_
  refine zz_callSi C (As := [.int v1]) (rest := []) (zc_X8_isNoSector _ _) (va_cwS 1 hts gX8_supply_X8_isNoSector rfl rfl rfl zd_X8_isNoSector.2 ⟨Nat.le_of_ble_eq_true rfl, Nat.le_of_ble_eq_true rfl⟩) hP hS rfl hl rfl (Nat.le_of_ble_eq_true rfl) dX8_supply_1 ⟨Nat.zero_le _, Nat.zero_le _⟩ (fun H locs hP hS => ?_)
  refine lv_if_eq (tgt := 17) hx hb dX8_supply_4 (by decide) (fun h => ?_) (fun h => ?_)
  · rw [zz_if0 (zz_b0 h)] at hf
    refine lv_aload_n hx hb dX8_supply_17 rfl (lv_at hl 0 rfl) ?_
    refine lv_iload_n hx hb dX8_supply_18 rfl (lv_at hl 2 rfl) ?_
    refine zz_callVi C (As := [.int v2]) (rest := []) (zc_X8_isNoTickToPlan _ _) (cwV 1 hts gX8_supply_X8_isNoTickToPlan rfl rfl rfl zd_X8_isNoTickToPlan ⟨Nat.le_of_ble_eq_true rfl, Nat.le_of_ble_eq_true rfl⟩) hP hS 0 rfl rfl rfl hl rfl (Nat.le_of_ble_eq_true rfl) dX8_supply_19 ⟨Nat.zero_le _, Nat.zero_le _⟩ (fun H locs hP hS => ?_)
    refine lv_if_eq (tgt := 35) hx hb dX8_supply_22 (by decide) (fun h => ?_) (fun h => ?_)
    · rw [zz_if0 (zz_b0 h)] at hf
      refine lv_aload_n hx hb dX8_supply_35 rfl (lv_at hl 0 rfl) ?_
      refine zz_getf C zi_X8_supply_X8 hP 0 rfl rfl 6 (nm := "sectors") (ds := "LThirteenthDay$Sectors;") (fin := true) rfl (by decide) zk_X8_supply_50 rfl dX8_supply_36 ?_
      refine lv_iload_n hx hb dX8_supply_39 rfl (lv_at hl 1 rfl) ?_
      refine lv_iconst (v := 0) hx hb dX8_supply_40 (by decide) ?_
      refine zz_callVi C (As := [.int v1, .int 0]) (rest := []) (zc_X3_get _ _ _) (cwV 2 hts gX8_supply_X3_get rfl rfl rfl zd_X3_get ⟨Nat.le_of_ble_eq_true rfl, Nat.le_of_ble_eq_true rfl⟩) hP hS 7 rfl rfl rfl hl rfl (Nat.le_of_ble_eq_true rfl) dX8_supply_41 ⟨Nat.zero_le _, Nat.zero_le _⟩ (fun H locs hP hS => ?_)
      refine lv_iconst (v := (-1)) hx hb dX8_supply_44 (by decide) ?_
      refine lv_icmp_ne (tgt := 59) hx hb dX8_supply_45 (by decide) (fun h => ?_) (fun h => ?_)
      · rw [if_neg h] at hf
        refine lv_aload_n hx hb dX8_supply_59 rfl (lv_at hl 0 rfl) ?_
        refine zz_getf C zi_X8_supply_X8 hP 0 rfl rfl 5 (nm := "supplies") (ds := "LThirteenthDay$Supplies;") (fin := true) rfl (by decide) zk_X8_supply_43 rfl dX8_supply_60 ?_
        obtain ⟨x1, e2, hf⟩ := zz_bo hf
        refine zz_callVi C (As := []) (rest := []) (zc_X4_freeRow _ _ e2) (cwV 0 hts gX8_supply_X4_freeRow rfl rfl rfl zd_X4_freeRow ⟨Nat.le_of_ble_eq_true rfl, Nat.le_of_ble_eq_true rfl⟩) hP hS 6 rfl rfl rfl hl rfl (Nat.le_of_ble_eq_true rfl) dX8_supply_63 ⟨Nat.zero_le _, Nat.zero_le _⟩ (fun H locs hP hS => ?_)
        refine lv_istore_n (lv' := [(3, .int x1), (0, .ref (q 0)), (1, .int v1), (2, .int v2)]) hx hb dX8_supply_66 rfl hl (by decide) rfl (fun ls hl => ?_)
        refine lv_iload_n hx hb dX8_supply_67 rfl (lv_at hl 0 rfl) ?_
        refine lv_iconst (v := (-1)) hx hb dX8_supply_68 (by decide) ?_
        refine lv_icmp_ne (tgt := 83) hx hb dX8_supply_69 (by decide) (fun h => ?_) (fun h => ?_)
        · rw [if_neg h] at hf
          refine lv_iload_n hx hb dX8_supply_83 rfl (lv_at hl 0 rfl) ?_
          refine zz_callSi C (As := [.int x1]) (rest := []) (zc_X2_slotOfSupply _ _) (va_cwS 1 hts gX8_supply_X2_slotOfSupply rfl rfl rfl zd_X2_slotOfSupply.2 ⟨Nat.le_of_ble_eq_true rfl, Nat.le_of_ble_eq_true rfl⟩) hP hS rfl hl rfl (Nat.le_of_ble_eq_true rfl) dX8_supply_84 ⟨Nat.zero_le _, Nat.zero_le _⟩ (fun H locs hP hS => ?_)
          refine lv_topi (fun w3 e3 => ?_)
          replace hf := zz_vi hf e3
          refine lv_istore (lv' := [(4, .int w3), (3, .int x1), (0, .ref (q 0)), (1, .int v1), (2, .int v2)]) hx hb dX8_supply_87 hl (by decide) rfl (fun ls hl => ?_)
          refine lv_aload_n hx hb dX8_supply_89 rfl (lv_at hl 2 rfl) ?_
          refine zz_getf C zi_X8_supply_X8 hP 0 rfl rfl 3 (nm := "trial") (ds := "LThirteenthDay$Paths;") (fin := true) rfl (by decide) zk_X8_supply_30 rfl dX8_supply_90 ?_
          refine lv_aload_n hx hb dX8_supply_93 rfl (lv_at hl 2 rfl) ?_
          refine zz_getf C zi_X8_supply_X8 hP 0 rfl rfl 2 (nm := "paths") (ds := "LThirteenthDay$Paths;") (fin := true) rfl (by decide) zk_X8_supply_26 rfl dX8_supply_94 ?_
          obtain ⟨st4, e5, hf⟩ := zz_vo hf
          refine zz_callVv C (As := [.ref (q 3)]) (rest := []) (zz_Mv_e e5 (zc_X2_copyFrom 4 11 (by decide) 3 6 (by decide) (by decide) _)) (cwV 1 hts gX8_supply_X2_copyFrom rfl rfl rfl zd_X2_copyFrom ⟨Nat.le_of_ble_eq_true rfl, Nat.le_of_ble_eq_true rfl⟩) hP hS 4 rfl rfl rfl hl rfl (Nat.le_of_ble_eq_true rfl) dX8_supply_97 ⟨Nat.zero_le _, Nat.zero_le _⟩ (fun H locs hP hS => ?_)
          refine lv_aload_n hx hb dX8_supply_100 rfl (lv_at hl 2 rfl) ?_
          refine zz_getf C zi_X8_supply_X8 hP 0 rfl rfl 3 (nm := "trial") (ds := "LThirteenthDay$Paths;") (fin := true) rfl (by decide) zk_X8_supply_30 rfl dX8_supply_101 ?_
          refine lv_iload hx hb dX8_supply_104 (lv_at hl 0 rfl) ?_
          refine lv_iload_n hx hb dX8_supply_106 rfl (lv_at hl 3 rfl) ?_
          refine lv_aload_n hx hb dX8_supply_107 rfl (lv_at hl 2 rfl) ?_
          refine zz_getf C zi_X8_supply_X8 hP 0 rfl rfl 6 (nm := "sectors") (ds := "LThirteenthDay$Sectors;") (fin := true) rfl (by decide) zk_X8_supply_50 rfl dX8_supply_108 ?_
          refine lv_iload_n hx hb dX8_supply_111 rfl (lv_at hl 3 rfl) ?_
          refine lv_iconst (v := 0) hx hb dX8_supply_112 (by decide) ?_
          refine zz_callVi C (As := [.int v1, .int 0]) (rest := [.int v1, .int w3, .ref (q 4)]) (zc_X3_get _ _ _) (cwV 2 hts gX8_supply_X3_get rfl rfl rfl zd_X3_get ⟨Nat.le_of_ble_eq_true rfl, Nat.le_of_ble_eq_true rfl⟩) hP hS 7 rfl rfl rfl hl rfl (Nat.le_of_ble_eq_true rfl) dX8_supply_113 ⟨Nat.zero_le _, Nat.zero_le _⟩ (fun H locs hP hS => ?_)
          refine lv_iconst (v := 3) hx hb dX8_supply_116 (by decide) ?_
          obtain ⟨st6, e7, hf⟩ := zz_vo hf
          refine zz_callVv C (As := [.int w3, .int v1, .int (zX3_get v1 0 st4), .int 3]) (rest := []) (zz_Mv_e e7 (zc_X2_describe 4 11 (by decide) _ _ _ _ _)) (cwV 4 hts gX8_supply_X2_describe rfl rfl rfl zd_X2_describe ⟨Nat.le_of_ble_eq_true rfl, Nat.le_of_ble_eq_true rfl⟩) hP hS 4 rfl rfl rfl hl rfl (Nat.le_of_ble_eq_true rfl) dX8_supply_117 ⟨Nat.zero_le _, Nat.zero_le _⟩ (fun H locs hP hS => ?_)
          refine lv_aload_n hx hb dX8_supply_120 rfl (lv_at hl 2 rfl) ?_
          refine zz_getf C zi_X8_supply_X8 hP 0 rfl rfl 3 (nm := "trial") (ds := "LThirteenthDay$Paths;") (fin := true) rfl (by decide) zk_X8_supply_30 rfl dX8_supply_121 ?_
          refine lv_iload hx hb dX8_supply_124 (lv_at hl 0 rfl) ?_
          refine lv_iconst (v := 0) hx hb dX8_supply_126 (by decide) ?_
          refine lv_aload_n hx hb dX8_supply_127 rfl (lv_at hl 2 rfl) ?_
          refine zz_getf C zi_X8_supply_X8 hP 0 rfl rfl 0 (nm := "land") (ds := "LThirteenthDay$Land;") (fin := true) rfl (by decide) zk_X8_supply_10 rfl dX8_supply_128 ?_
          obtain ⟨x8, e9, hf⟩ := zz_bo hf
          refine zz_callVi C (As := [.int w3, .int 0, .ref (q 1)]) (rest := []) (zc_X2_lay 4 11 (by decide) _ _ _ _ e9) (cwV 3 hts gX8_supply_X2_lay rfl rfl rfl zd_X2_lay ⟨Nat.le_of_ble_eq_true rfl, Nat.le_of_ble_eq_true rfl⟩) hP hS 4 rfl rfl rfl hl rfl (Nat.le_of_ble_eq_true rfl) dX8_supply_131 ⟨Nat.zero_le _, Nat.zero_le _⟩ (fun H locs hP hS => ?_)
          refine lv_istore (lv' := [(5, .int (zz_b x8.1)), (4, .int w3), (3, .int x1), (0, .ref (q 0)), (1, .int v1), (2, .int v2)]) hx hb dX8_supply_134 hl (by decide) rfl (fun ls hl => ?_)
          refine lv_iload hx hb dX8_supply_136 (lv_at hl 0 rfl) ?_
          refine lv_if_eq (tgt := 159) hx hb dX8_supply_138 (by decide) (fun h => ?_) (fun h => ?_)
          · rw [zz_if0 (zz_b0 h)] at hf
            refine lv_bipush (v := (-2)) hx hb dX8_supply_159 (by decide) ?_
            exact zt_X8_supply_161 C hr _ _ _ _ _ _ _ _ hf hP hS (lv_sub hl [3, 4, 2] rfl)
          · rw [zz_if1 (zz_b1 h)] at hf
            refine lv_aload_n hx hb dX8_supply_141 rfl (lv_at hl 3 rfl) ?_
            refine zz_getf C zi_X8_supply_X8 hP 0 rfl rfl 3 (nm := "trial") (ds := "LThirteenthDay$Paths;") (fin := true) rfl (by decide) zk_X8_supply_30 rfl dX8_supply_142 ?_
            refine lv_iload hx hb dX8_supply_145 (lv_at hl 1 rfl) ?_
            refine lv_iload_n hx hb dX8_supply_147 rfl (lv_at hl 5 rfl) ?_
            refine lv_iload_n hx hb dX8_supply_148 rfl (lv_at hl 5 rfl) ?_
            refine lv_sipush (v := 288) hx hb dX8_supply_149 (by decide) ?_
            refine lv_iadd hx hb dX8_supply_152 ?_
            obtain ⟨x14, e15, hf⟩ := zz_bo hf
            refine zz_callVi C (As := [.int w3, .int v2, .int (v2 + 288)]) (rest := []) (zc_X2_findStart 4 11 (by decide) _ _ _ _ _ e15) (cwV 3 hts gX8_supply_X2_findStart rfl rfl rfl zd_X2_findStart ⟨Nat.le_of_ble_eq_true rfl, Nat.le_of_ble_eq_true rfl⟩) hP hS 4 rfl rfl rfl hl rfl (Nat.le_of_ble_eq_true rfl) dX8_supply_153 ⟨Nat.zero_le _, Nat.zero_le _⟩ (fun H locs hP hS => ?_)
            refine lv_goto (tgt := 161) hx hb dX8_supply_156 (by decide) ?_
            exact zt_X8_supply_161 C hr _ _ _ _ _ _ _ _ hf hP hS (lv_sub hl [3, 4, 2] rfl)
        · rw [if_pos h] at hf
          cases hf
      · rw [if_pos h] at hf
        cases hf
    · rw [zz_if1 (zz_b1 h)] at hf
      cases hf
  · rw [zz_if1 (zz_b1 h)] at hf
    cases hf
/-! X8_unit PW -/
theorem zd_X8_unit : yX8_unit.cls = RX8 ∧ yX8_unit.cls ≠ "java/lang/invoke/MethodHandle" ∧ yX8_unit.cls ≠ "java/lang/invoke/VarHandle" ∧ (parseMethodDescriptor yX8_unit.desc).map (fun d => d.parameters.length) = some 4 := by decide +kernel
abbrev zr_X8_unit : Room := { frames := 2, cells := 0, slots := 0, locals := 49 }
theorem zk_X8_unit_10 : Cond.fieldLink yX8_unit.cls 10 RX8 "land" "LThirteenthDay$Land;" ∈ wsX8_unit := by decide +kernel
theorem zk_X8_unit_19 : Cond.fieldLink yX8_unit.cls 19 RX8 "units" "LThirteenthDay$Units;" ∈ wsX8_unit := by decide +kernel
theorem zk_X8_unit_66 : Cond.fieldLink yX8_unit.cls 66 RX8 "aims" "LThirteenthDay$Table;" ∈ wsX8_unit := by decide +kernel
theorem zi_X8_unit_X8 : ∀ w ∈ u_ws RX8 TX8 11, w ∈ wsX8_unit := by decide +kernel
def zX8_unit_118 : Nat → Int32 → Int32 → Int32 → zz_T → Option (Int32 × zz_T)
  | 0, _, _, _, _ => none
  | n + 1, v4, v5, v6, st =>
    if 4 ≤ v6 then
      some (v5, st)
    else
      zz_v (zz_set 23 v6 v5 v4 st) fun st3 =>
      zX8_unit_118 n v4 v5 (v6 + 1) st3
set_option maxHeartbeats 4000000 in
set_option maxRecDepth 100000 in
theorem zt_X8_unit_118 {l : Launch} {A : Nat → Prop} {D : va_G} {cI : ClassId} {q : Nat → Nat} {p : Program} {e : Env} {s : State} {m : MethodId} {args : Array Value} {below : List Frame} {meth : Method} {c : Code} (C : zz_C A D cI q p s m args meth c cX8_unit 7 wsX8_unit yX8_unit.cls) (hr : meth.sig.returnType = some .int) : ∀ (n : Nat) (v4 : Int32) (v5 : Int32) (v6 : Int32) (st : zz_T) (H : Heap) (locs : List Loc) (ls : Array Slot) (r : (Int32 × zz_T)), zX8_unit_118 n v4 v5 v6 st = some r → va_P D vwCl (zz_c q cI st) H → va_S A s.heap H locs → lv_has ls 7 [(0, .ref (q 0)), (4, .int v4), (5, .int v5), (6, .int v6)] → W p l e zr_X8_unit s m args below meth c H locs 0 0 (zz_Qi A D cI q r.1 r.2 below args s) (F0 m 118 ls []) := by
  obtain ⟨hx, hb, hml, hown, hts⟩ := id C.1
  intro n
  induction n with
  | zero => intro v4 v5 v6 st H locs ls r hf; cases hf
  | succ n ih =>
    intro v4 v5 v6 st H locs ls r hf hP hS hl
    rw [zX8_unit_118] at hf
    refine lv_iload hx hb dX8_unit_118 (lv_at hl 3 rfl) ?_
    refine lv_iconst (v := 4) hx hb dX8_unit_120 (by decide) ?_
    refine lv_icmp_ge (tgt := 143) hx hb dX8_unit_121 (by decide) (fun h => ?_) (fun h => ?_)
    · rw [if_pos h] at hf
      refine lv_iload hx hb dX8_unit_143 (lv_at hl 2 rfl) ?_
      rw [← (Option.some.inj hf)]
      exact zz_reti C hr hP hS dX8_unit_145
    · rw [if_neg h] at hf
      refine lv_aload_n hx hb dX8_unit_124 rfl (lv_at hl 0 rfl) ?_
      refine zz_getf C zi_X8_unit_X8 hP 0 rfl rfl 8 (nm := "aims") (ds := "LThirteenthDay$Table;") (fin := true) rfl (by decide) zk_X8_unit_66 rfl dX8_unit_125 ?_
      refine lv_iload hx hb dX8_unit_128 (lv_at hl 3 rfl) ?_
      refine lv_iload hx hb dX8_unit_130 (lv_at hl 2 rfl) ?_
      refine lv_iload hx hb dX8_unit_132 (lv_at hl 1 rfl) ?_
      obtain ⟨st3, e4, hf⟩ := zz_vo hf
      refine zz_callVv C (As := [.int v6, .int v5, .int v4]) (rest := []) (zz_Mv_e e4 (zc_X5_set 23 (by decide) _ _ _ _)) (cwV 3 hts gX8_unit_X5_set rfl rfl rfl zd_X5_set ⟨Nat.le_of_ble_eq_true rfl, Nat.le_of_ble_eq_true rfl⟩) hP hS (9 + 23) (zz_c_tab (by decide)) rfl rfl hl rfl (Nat.le_of_ble_eq_true rfl) dX8_unit_134 ⟨Nat.zero_le _, Nat.zero_le _⟩ (fun H locs hP hS => ?_)
      refine lv_iinc (v := (v6 + 1)) (lv' := [(6, .int (v6 + 1)), (0, .ref (q 0)), (4, .int v4), (5, .int v5)]) hx hb dX8_unit_137 hl (k := 3) rfl (congrArg (fun z => v6 + z) (by decide)) (by decide) rfl (fun ls hl => ?_)
      refine lv_goto (tgt := 118) hx hb dX8_unit_140 (by decide) ?_
      exact ih _ _ _ _ _ _ _ _ hf hP hS (lv_sub hl [1, 2, 3, 0] rfl)
def zX8_unit (v1 : Int32) (v2 : Int32) (v3 : Int32) (v4 : Int32) (st : zz_T) : Option (Int32 × zz_T) :=
  if (zX1_hasStation v3 st) = true then
    if (zX8_isNoSector v4 st) = true then
      none
    else
      if v1 < 0 then
        none
      else
        if v1 ≤ 4 then
          if v2 < 1 then
            none
          else
            if v2 ≤ 8 then
              if (zX7_count st) < 6 then
                zz_v (zX7_add v1 v2 v3 v4 st) fun p1 =>
                zX8_unit_118 zz_N v4 p1.1 0 p1.2
              else
                none
            else
              none
        else
          none
  else
    none
set_option maxHeartbeats 4000000 in
set_option maxRecDepth 100000 in
theorem zc_X8_unit {l : Launch} {A : Nat → Prop} {D : va_G} {cI : ClassId} {q : Nat → Nat} (v1 : Int32) (v2 : Int32) (v3 : Int32) (v4 : Int32) (st : zz_T) (r : (Int32 × zz_T)) (hf : zX8_unit v1 v2 v3 v4 st = some r) : zz_Mi l A D cI q yX8_unit wsX8_unit zr_X8_unit [.ref (q 0), .int v1, .int v2, .int v3, .int v4] st r.1 r.2 := by
  refine zz_of (cc := cX8_unit) (nL := 7) (ret := some .int) (by decide) rfl (Nat.le_of_ble_eq_true rfl) ?_
  intro p e s m args below meth c ls C hr hP hS hl
  obtain ⟨hx, hb, hml, hown, hts⟩ := id C.1
  have hl : lv_has ls 7 [(0, .ref (q 0)), (1, .int v1), (2, .int v2), (3, .int v3), (4, .int v4)] := hl
  rw [zX8_unit] at hf
  skip
  refine lv_aload_n hx hb dX8_unit_0 rfl (lv_at hl 0 rfl) ?_
  refine zz_getf C zi_X8_unit_X8 hP 0 rfl rfl 0 (nm := "land") (ds := "LThirteenthDay$Land;") (fin := true) rfl (by decide) zk_X8_unit_10 rfl dX8_unit_1 ?_
  refine lv_iload_n hx hb dX8_unit_4 rfl (lv_at hl 3 rfl) ?_
  refine zz_callVi C (As := [.int v3]) (rest := []) (zc_X1_hasStation _ _) (cwV 1 hts gX8_unit_X1_hasStation rfl rfl rfl zd_X1_hasStation ⟨Nat.le_of_ble_eq_true rfl, Nat.le_of_ble_eq_true rfl⟩) hP hS 1 rfl rfl rfl hl rfl (Nat.le_of_ble_eq_true rfl) dX8_unit_5 ⟨Nat.zero_le _, Nat.zero_le _⟩ (fun H locs hP hS => ?_)
  refine lv_if_ne (tgt := 21) hx hb dX8_unit_8 (by decide) (fun h => ?_) (fun h => ?_)
  · rw [zz_if1 (zz_b1 h)] at hf
    refine lv_iload hx hb dX8_unit_21 (lv_at hl 4 rfl) ?_
    refine zz_callSi C (As := [.int v4]) (rest := []) (zc_X8_isNoSector _ _) (va_cwS 1 hts gX8_unit_X8_isNoSector rfl rfl rfl zd_X8_isNoSector.2 ⟨Nat.le_of_ble_eq_true rfl, Nat.le_of_ble_eq_true rfl⟩) hP hS rfl hl rfl (Nat.le_of_ble_eq_true rfl) dX8_unit_23 ⟨Nat.zero_le _, Nat.zero_le _⟩ (fun H locs hP hS => ?_)
    refine lv_if_eq (tgt := 39) hx hb dX8_unit_26 (by decide) (fun h => ?_) (fun h => ?_)
    · rw [zz_if0 (zz_b0 h)] at hf
      refine lv_iload_n hx hb dX8_unit_39 rfl (lv_at hl 1 rfl) ?_
      refine lv_if_lt (tgt := 48) hx hb dX8_unit_40 (by decide) (fun h => ?_) (fun h => ?_)
      · rw [if_pos h] at hf
        cases hf
      · rw [if_neg h] at hf
        refine lv_iload_n hx hb dX8_unit_43 rfl (lv_at hl 1 rfl) ?_
        refine lv_iconst (v := 4) hx hb dX8_unit_44 (by decide) ?_
        refine lv_icmp_le (tgt := 58) hx hb dX8_unit_45 (by decide) (fun h => ?_) (fun h => ?_)
        · rw [if_pos h] at hf
          refine lv_iload_n hx hb dX8_unit_58 rfl (lv_at hl 2 rfl) ?_
          refine lv_iconst (v := 1) hx hb dX8_unit_59 (by decide) ?_
          refine lv_icmp_lt (tgt := 69) hx hb dX8_unit_60 (by decide) (fun h => ?_) (fun h => ?_)
          · rw [if_pos h] at hf
            cases hf
          · rw [if_neg h] at hf
            refine lv_iload_n hx hb dX8_unit_63 rfl (lv_at hl 2 rfl) ?_
            refine lv_bipush (v := 8) hx hb dX8_unit_64 (by decide) ?_
            refine lv_icmp_le (tgt := 79) hx hb dX8_unit_66 (by decide) (fun h => ?_) (fun h => ?_)
            · rw [if_pos h] at hf
              refine lv_aload_n hx hb dX8_unit_79 rfl (lv_at hl 0 rfl) ?_
              refine zz_getf C zi_X8_unit_X8 hP 0 rfl rfl 1 (nm := "units") (ds := "LThirteenthDay$Units;") (fin := true) rfl (by decide) zk_X8_unit_19 rfl dX8_unit_80 ?_
              refine zz_callVi C (As := []) (rest := []) (zc_X7_count _) (cwV 0 hts gX8_unit_X7_count rfl rfl rfl zd_X7_count ⟨Nat.le_of_ble_eq_true rfl, Nat.le_of_ble_eq_true rfl⟩) hP hS 2 rfl rfl rfl hl rfl (Nat.le_of_ble_eq_true rfl) dX8_unit_83 ⟨Nat.zero_le _, Nat.zero_le _⟩ (fun H locs hP hS => ?_)
              refine lv_bipush (v := 6) hx hb dX8_unit_86 (by decide) ?_
              refine lv_icmp_lt (tgt := 101) hx hb dX8_unit_88 (by decide) (fun h => ?_) (fun h => ?_)
              · rw [if_pos h] at hf
                refine lv_aload_n hx hb dX8_unit_101 rfl (lv_at hl 0 rfl) ?_
                refine zz_getf C zi_X8_unit_X8 hP 0 rfl rfl 1 (nm := "units") (ds := "LThirteenthDay$Units;") (fin := true) rfl (by decide) zk_X8_unit_19 rfl dX8_unit_102 ?_
                refine lv_iload_n hx hb dX8_unit_105 rfl (lv_at hl 1 rfl) ?_
                refine lv_iload_n hx hb dX8_unit_106 rfl (lv_at hl 2 rfl) ?_
                refine lv_iload_n hx hb dX8_unit_107 rfl (lv_at hl 3 rfl) ?_
                refine lv_iload hx hb dX8_unit_108 (lv_at hl 4 rfl) ?_
                obtain ⟨p1, e2, hf⟩ := zz_vo hf
                refine zz_callVi C (As := [.int v1, .int v2, .int v3, .int v4]) (rest := []) (zz_Mi_e e2 (zc_X7_add _ _ _ _ _)) (cwV 4 hts gX8_unit_X7_add rfl rfl rfl zd_X7_add ⟨Nat.le_of_ble_eq_true rfl, Nat.le_of_ble_eq_true rfl⟩) hP hS 2 rfl rfl rfl hl rfl (Nat.le_of_ble_eq_true rfl) dX8_unit_110 ⟨Nat.zero_le _, Nat.zero_le _⟩ (fun H locs hP hS => ?_)
                refine lv_istore (lv' := [(5, .int p1.1), (0, .ref (q 0)), (1, .int v1), (2, .int v2), (3, .int v3), (4, .int v4)]) hx hb dX8_unit_113 hl (by decide) rfl (fun ls hl => ?_)
                refine lv_iconst (v := 0) hx hb dX8_unit_115 (by decide) ?_
                refine lv_istore (lv' := [(6, .int 0), (5, .int p1.1), (0, .ref (q 0)), (1, .int v1), (2, .int v2), (3, .int v3), (4, .int v4)]) hx hb dX8_unit_116 hl (by decide) rfl (fun ls hl => ?_)
                exact zt_X8_unit_118 C hr zz_N _ _ _ _ _ _ _ _ hf hP hS (lv_sub hl [2, 6, 1, 0] rfl)
              · rw [if_neg h] at hf
                cases hf
            · rw [if_neg h] at hf
              cases hf
        · rw [if_neg h] at hf
          cases hf
    · rw [zz_if1 (zz_b1 h)] at hf
      cases hf
  · rw [zz_if0 (zz_b0 h)] at hf
    cases hf
/-! X8_order PX -/
abbrev zr_X8_orderx : Room := { frames := 6, cells := 1, slots := 6, locals := 96 }
theorem zj_X8_order_IA : Cond.classLink yX8_order.cls 77 "java/lang/IllegalArgumentException" ∈ wsX8_order ∧ Cond.initialized "java/lang/IllegalArgumentException" ∈ wsX8_order ∧ (∀ w ∈ vx_atS yX8_order.cls 81 "java/lang/IllegalArgumentException" ["java/lang/RuntimeException", "java/lang/Exception"], w ∈ wsX8_order ∨ w ∈ zz_bad) ∧ ∀ w ∈ Cond.classLink yX8_order.cls 77 "java/lang/IllegalArgumentException" :: Cond.initialized "java/lang/IllegalArgumentException" :: vx_atS yX8_order.cls 81 "java/lang/IllegalArgumentException" ["java/lang/RuntimeException", "java/lang/Exception"], vx_ot w = true := by decide +kernel
theorem zj_X8_order_IS : Cond.classLink yX8_order.cls 92 "java/lang/IllegalStateException" ∈ wsX8_order ∧ Cond.initialized "java/lang/IllegalStateException" ∈ wsX8_order ∧ (∀ w ∈ vx_atS yX8_order.cls 96 "java/lang/IllegalStateException" ["java/lang/RuntimeException", "java/lang/Exception"], w ∈ wsX8_order ∨ w ∈ zz_bad) ∧ ∀ w ∈ Cond.classLink yX8_order.cls 92 "java/lang/IllegalStateException" :: Cond.initialized "java/lang/IllegalStateException" :: vx_atS yX8_order.cls 96 "java/lang/IllegalStateException" ["java/lang/RuntimeException", "java/lang/Exception"], vx_ot w = true := by decide +kernel
def zX8_orderx_50 : Nat → Int32 → Int32 → Int32 → zz_T → Option (Option Int32 × zz_T)
  | 0, _, _, _, _ => none
  | n + 1, v1, v2, v3, st =>
    if (zX7_count st) ≤ v3 then
      some (some v2, st)
    else
      if ((v1 >>> (v3 &&& 31)) &&& 1) = 1 then
        if (zX7_get v3 4 st) = 0 then
          zz_v (zX7_set v3 4 1 st) fun st1 =>
          (zX8_wireTicks v3 st1).bind fun x3 =>
          zz_v (zX7_set v3 10 ((st1.2 0) + x3) st1) fun st5 =>
          zX8_orderx_50 n v1 (v2 + 1) (v3 + 1) st5
        else
          zX8_orderx_50 n v1 v2 (v3 + 1) st
      else
        zX8_orderx_50 n v1 v2 (v3 + 1) st
set_option maxHeartbeats 4000000 in
set_option maxRecDepth 100000 in
theorem zt_X8_orderx_50 {l : Launch} {A : Nat → Prop} {D : va_G} {cI : ClassId} {q : Nat → Nat} {p : Program} {e : Env} {s : State} {m : MethodId} {args : Array Value} {below : List Frame} {meth : Method} {c : Code} (C : zz_C A D cI q p s m args meth c cX8_order 4 wsX8_order yX8_order.cls) (hr : meth.sig.returnType = some .int) (hst : l.stackTraces = false) (hxt : ∀ x ∈ c.exceptionTable.toList, False) : ∀ (n : Nat) (v1 : Int32) (v2 : Int32) (v3 : Int32) (st : zz_T) (H : Heap) (locs : List Loc) (ls : Array Slot) (r : (Option Int32 × zz_T)), zX8_orderx_50 n v1 v2 v3 st = some r → va_P D vwCl (zz_c q cI st) H → va_S A s.heap H locs → lv_has ls 4 [(0, .ref (q 0)), (1, .int v1), (2, .int v2), (3, .int v3)] → W p l e zr_X8_orderx s m args below meth c H locs 0 0 (zz_Qx A D cI q r below args s) (F0 m 50 ls []) := by
  obtain ⟨hx, hb, hml, hown, hts⟩ := id C.1
  intro n
  induction n with
  | zero => intro v1 v2 v3 st H locs ls r hf; cases hf
  | succ n ih =>
    intro v1 v2 v3 st H locs ls r hf hP hS hl
    rw [zX8_orderx_50] at hf
    refine lv_iload_n hx hb dX8_order_50 rfl (lv_at hl 3 rfl) ?_
    refine lv_aload_n hx hb dX8_order_51 rfl (lv_at hl 0 rfl) ?_
    refine zz_getf C zi_X8_order_X8 hP 0 rfl rfl 1 (nm := "units") (ds := "LThirteenthDay$Units;") (fin := true) rfl (by decide) zk_X8_order_19 rfl dX8_order_52 ?_
    refine zz_callVi C (As := []) (rest := [.int v3]) (zc_X7_count _) (cwV 0 hts gX8_order_X7_count rfl rfl rfl zd_X7_count ⟨Nat.le_of_ble_eq_true rfl, Nat.le_of_ble_eq_true rfl⟩) hP hS 2 rfl rfl rfl hl rfl (Nat.le_of_ble_eq_true rfl) dX8_order_55 ⟨Nat.zero_le _, Nat.zero_le _⟩ (fun H locs hP hS => ?_)
    refine lv_icmp_ge (tgt := 121) hx hb dX8_order_58 (by decide) (fun h => ?_) (fun h => ?_)
    · rw [if_pos h] at hf
      refine lv_iload_n hx hb dX8_order_121 rfl (lv_at hl 2 rfl) ?_
      rw [← (Option.some.inj hf)]
      exact zz_retxi C hr hP hS dX8_order_122
    · rw [if_neg h] at hf
      refine lv_iload_n hx hb dX8_order_61 rfl (lv_at hl 1 rfl) ?_
      refine lv_iload_n hx hb dX8_order_62 rfl (lv_at hl 3 rfl) ?_
      refine lv_ishr hx hb dX8_order_63 ?_
      refine lv_iconst (v := 1) hx hb dX8_order_64 (by decide) ?_
      refine lv_iand hx hb dX8_order_65 ?_
      refine lv_iconst (v := 1) hx hb dX8_order_66 (by decide) ?_
      refine lv_icmp_ne (tgt := 115) hx hb dX8_order_67 (by decide) (fun h => ?_) (fun h => ?_)
      · rw [if_neg h] at hf
        refine lv_iinc (v := (v3 + 1)) (lv' := [(3, .int (v3 + 1)), (0, .ref (q 0)), (1, .int v1), (2, .int v2)]) hx hb dX8_order_115 hl (k := 3) rfl (congrArg (fun z => v3 + z) (by decide)) (by decide) rfl (fun ls hl => ?_)
        refine lv_goto (tgt := 50) hx hb dX8_order_118 (by decide) ?_
        exact ih _ _ _ _ _ _ _ _ hf hP hS (lv_sub hl [1, 2, 3, 0] rfl)
      · rw [if_pos h] at hf
        refine lv_aload_n hx hb dX8_order_70 rfl (lv_at hl 0 rfl) ?_
        refine zz_getf C zi_X8_order_X8 hP 0 rfl rfl 1 (nm := "units") (ds := "LThirteenthDay$Units;") (fin := true) rfl (by decide) zk_X8_order_19 rfl dX8_order_71 ?_
        refine lv_iload_n hx hb dX8_order_74 rfl (lv_at hl 3 rfl) ?_
        refine lv_iconst (v := 4) hx hb dX8_order_75 (by decide) ?_
        refine zz_callVi C (As := [.int v3, .int 4]) (rest := []) (zc_X7_get _ _ _) (cwV 2 hts gX8_order_X7_get rfl rfl rfl zd_X7_get ⟨Nat.le_of_ble_eq_true rfl, Nat.le_of_ble_eq_true rfl⟩) hP hS 2 rfl rfl rfl hl rfl (Nat.le_of_ble_eq_true rfl) dX8_order_76 ⟨Nat.zero_le _, Nat.zero_le _⟩ (fun H locs hP hS => ?_)
        refine lv_if_ne (tgt := 115) hx hb dX8_order_79 (by decide) (fun h => ?_) (fun h => ?_)
        · rw [if_neg h] at hf
          refine lv_iinc (v := (v3 + 1)) (lv' := [(3, .int (v3 + 1)), (0, .ref (q 0)), (1, .int v1), (2, .int v2)]) hx hb dX8_order_115 hl (k := 3) rfl (congrArg (fun z => v3 + z) (by decide)) (by decide) rfl (fun ls hl => ?_)
          refine lv_goto (tgt := 50) hx hb dX8_order_118 (by decide) ?_
          exact ih _ _ _ _ _ _ _ _ hf hP hS (lv_sub hl [1, 2, 3, 0] rfl)
        · rw [if_pos h] at hf
          refine lv_aload_n hx hb dX8_order_82 rfl (lv_at hl 0 rfl) ?_
          refine zz_getf C zi_X8_order_X8 hP 0 rfl rfl 1 (nm := "units") (ds := "LThirteenthDay$Units;") (fin := true) rfl (by decide) zk_X8_order_19 rfl dX8_order_83 ?_
          refine lv_iload_n hx hb dX8_order_86 rfl (lv_at hl 3 rfl) ?_
          refine lv_iconst (v := 4) hx hb dX8_order_87 (by decide) ?_
          refine lv_iconst (v := 1) hx hb dX8_order_88 (by decide) ?_
          obtain ⟨st1, e2, hf⟩ := zz_vo hf
          refine zz_callVv C (As := [.int v3, .int 4, .int 1]) (rest := []) (zz_Mv_e e2 (zc_X7_set _ _ _ _)) (cwV 3 hts gX8_order_X7_set rfl rfl rfl zd_X7_set ⟨Nat.le_of_ble_eq_true rfl, Nat.le_of_ble_eq_true rfl⟩) hP hS 2 rfl rfl rfl hl rfl (Nat.le_of_ble_eq_true rfl) dX8_order_89 ⟨Nat.zero_le _, Nat.zero_le _⟩ (fun H locs hP hS => ?_)
          refine lv_aload_n hx hb dX8_order_92 rfl (lv_at hl 0 rfl) ?_
          refine zz_getf C zi_X8_order_X8 hP 0 rfl rfl 1 (nm := "units") (ds := "LThirteenthDay$Units;") (fin := true) rfl (by decide) zk_X8_order_19 rfl dX8_order_93 ?_
          refine lv_iload_n hx hb dX8_order_96 rfl (lv_at hl 3 rfl) ?_
          refine lv_bipush (v := 10) hx hb dX8_order_97 (by decide) ?_
          refine lv_aload_n hx hb dX8_order_99 rfl (lv_at hl 0 rfl) ?_
          refine zz_getf C zi_X8_order_X8 hP 0 rfl rfl 9 (nm := "tick") (ds := "I") (fin := false) rfl (by decide) zk_X8_order_70 rfl dX8_order_100 ?_
          refine lv_aload_n hx hb dX8_order_103 rfl (lv_at hl 0 rfl) ?_
          refine lv_iload_n hx hb dX8_order_104 rfl (lv_at hl 3 rfl) ?_
          obtain ⟨x3, e4, hf⟩ := zz_bo hf
          refine zz_callVi C (As := [.int v3]) (rest := [.int (st1.2 0), .int 10, .int v3, .ref (q 2)]) (zc_X8_wireTicks _ _ _ e4) (cwV 1 hts gX8_order_X8_wireTicks rfl rfl rfl zd_X8_wireTicks ⟨Nat.le_of_ble_eq_true rfl, Nat.le_of_ble_eq_true rfl⟩) hP hS 0 rfl rfl rfl hl rfl (Nat.le_of_ble_eq_true rfl) dX8_order_105 ⟨Nat.zero_le _, Nat.zero_le _⟩ (fun H locs hP hS => ?_)
          refine lv_iadd hx hb dX8_order_108 ?_
          obtain ⟨st5, e6, hf⟩ := zz_vo hf
          refine zz_callVv C (As := [.int v3, .int 10, .int ((st1.2 0) + x3)]) (rest := []) (zz_Mv_e e6 (zc_X7_set _ _ _ _)) (cwV 3 hts gX8_order_X7_set rfl rfl rfl zd_X7_set ⟨Nat.le_of_ble_eq_true rfl, Nat.le_of_ble_eq_true rfl⟩) hP hS 2 rfl rfl rfl hl rfl (Nat.le_of_ble_eq_true rfl) dX8_order_109 ⟨Nat.zero_le _, Nat.zero_le _⟩ (fun H locs hP hS => ?_)
          refine lv_iinc (v := (v2 + 1)) (lv' := [(2, .int (v2 + 1)), (0, .ref (q 0)), (1, .int v1), (3, .int v3)]) hx hb dX8_order_112 hl (k := 2) rfl (congrArg (fun z => v2 + z) (by decide)) (by decide) rfl (fun ls hl => ?_)
          refine lv_iinc (v := (v3 + 1)) (lv' := [(3, .int (v3 + 1)), (2, .int (v2 + 1)), (0, .ref (q 0)), (1, .int v1)]) hx hb dX8_order_115 hl (k := 3) rfl (congrArg (fun z => v3 + z) (by decide)) (by decide) rfl (fun ls hl => ?_)
          refine lv_goto (tgt := 50) hx hb dX8_order_118 (by decide) ?_
          exact ih _ _ _ _ _ _ _ _ hf hP hS (lv_sub hl [2, 3, 1, 0] rfl)
def zX8_orderx (v1 : Int32) (st : zz_T) : Option (Option Int32 × zz_T) :=
  if v1 < 0 then
    some (none, st)
  else
    if (v1 >>> ((zX7_count st) &&& 31)) = 0 then
      if (zX1_countStations st) = 0 then
        some (none, st)
      else
        zX8_orderx_50 zz_N v1 0 0 st
    else
      some (none, st)
set_option maxHeartbeats 4000000 in
set_option maxRecDepth 100000 in
theorem zx_X8_order {l : Launch} {A : Nat → Prop} {D : va_G} {cI : ClassId} {q : Nat → Nat} (hst : l.stackTraces = false) (v1 : Int32) (st : zz_T) (r : (Option Int32 × zz_T)) (hf : zX8_orderx v1 st = some r) : zz_Mx l A D cI q yX8_order wsX8_order zr_X8_orderx [.ref (q 0), .int v1] st r := by
  refine zz_ofx (cc := cX8_order) (nL := 4) (ret := some .int) (by decide) rfl (Nat.le_of_ble_eq_true rfl) ?_
  intro p e s m args below meth c ls C hr hxt hP hS hl
  obtain ⟨hx, hb, hml, hown, hts⟩ := id C.1
  have hl : lv_has ls 4 [(0, .ref (q 0)), (1, .int v1)] := hl
  rw [zX8_orderx] at hf
  skip
  refine lv_iload_n hx hb dX8_order_0 rfl (lv_at hl 1 rfl) ?_
  refine lv_if_lt (tgt := 16) hx hb dX8_order_1 (by decide) (fun h => ?_) (fun h => ?_)
  · rw [if_pos h] at hf
    rw [← (Option.some.inj hf)]
    exact zz_thr C hst hP hS (cls := "java/lang/IllegalArgumentException") (text := "set is less than 0, or has a UNIT that there is not") (ik := 77) (is := 196) (ic := 81) (by decide +kernel) zj_X8_order_IA.1 zj_X8_order_IA.2.1 (by decide +kernel) zj_X8_order_IA.2.2.1 zj_X8_order_IA.2.2.2 (by decide) hl dX8_order_16 dX8_order_19 dX8_order_20 dX8_order_22 dX8_order_25 hxt (by decide) (by decide) (by decide) (by decide)
  · rw [if_neg h] at hf
    refine lv_iload_n hx hb dX8_order_4 rfl (lv_at hl 1 rfl) ?_
    refine lv_aload_n hx hb dX8_order_5 rfl (lv_at hl 0 rfl) ?_
    refine zz_getf C zi_X8_order_X8 hP 0 rfl rfl 1 (nm := "units") (ds := "LThirteenthDay$Units;") (fin := true) rfl (by decide) zk_X8_order_19 rfl dX8_order_6 ?_
    refine zz_callVi C (As := []) (rest := [.int v1]) (zc_X7_count _) (cwV 0 hts gX8_order_X7_count rfl rfl rfl zd_X7_count ⟨Nat.le_of_ble_eq_true rfl, Nat.le_of_ble_eq_true rfl⟩) hP hS 2 rfl rfl rfl hl rfl (Nat.le_of_ble_eq_true rfl) dX8_order_9 ⟨Nat.zero_le _, Nat.zero_le _⟩ (fun H locs hP hS => ?_)
    refine lv_ishr hx hb dX8_order_12 ?_
    refine lv_if_eq (tgt := 26) hx hb dX8_order_13 (by decide) (fun h => ?_) (fun h => ?_)
    · rw [if_pos h] at hf
      refine lv_aload_n hx hb dX8_order_26 rfl (lv_at hl 0 rfl) ?_
      refine zz_getf C zi_X8_order_X8 hP 0 rfl rfl 0 (nm := "land") (ds := "LThirteenthDay$Land;") (fin := true) rfl (by decide) zk_X8_order_10 rfl dX8_order_27 ?_
      refine zz_callVi C (As := []) (rest := []) (zc_X1_countStations _) (cwV 0 hts gX8_order_X1_countStations rfl rfl rfl zd_X1_countStations ⟨Nat.le_of_ble_eq_true rfl, Nat.le_of_ble_eq_true rfl⟩) hP hS 1 rfl rfl rfl hl rfl (Nat.le_of_ble_eq_true rfl) dX8_order_30 ⟨Nat.zero_le _, Nat.zero_le _⟩ (fun H locs hP hS => ?_)
      refine lv_if_ne (tgt := 46) hx hb dX8_order_33 (by decide) (fun h => ?_) (fun h => ?_)
      · rw [if_neg h] at hf
        refine lv_iconst (v := 0) hx hb dX8_order_46 (by decide) ?_
        refine lv_istore_n (lv' := [(2, .int 0), (0, .ref (q 0)), (1, .int v1)]) hx hb dX8_order_47 rfl hl (by decide) rfl (fun ls hl => ?_)
        refine lv_iconst (v := 0) hx hb dX8_order_48 (by decide) ?_
        refine lv_istore_n (lv' := [(3, .int 0), (2, .int 0), (0, .ref (q 0)), (1, .int v1)]) hx hb dX8_order_49 rfl hl (by decide) rfl (fun ls hl => ?_)
        exact zt_X8_orderx_50 C hr hst hxt zz_N _ _ _ _ _ _ _ _ hf hP hS (lv_sub hl [2, 3, 1, 0] rfl)
      · rw [if_pos h] at hf
        rw [← (Option.some.inj hf)]
        exact zz_thr C hst hP hS (cls := "java/lang/IllegalStateException") (text := "there is no STATION") (ik := 92) (is := 198) (ic := 96) (by decide +kernel) zj_X8_order_IS.1 zj_X8_order_IS.2.1 (by decide +kernel) zj_X8_order_IS.2.2.1 zj_X8_order_IS.2.2.2 (by decide) hl dX8_order_36 dX8_order_39 dX8_order_40 dX8_order_42 dX8_order_45 hxt (by decide) (by decide) (by decide) (by decide)
    · rw [if_neg h] at hf
      rw [← (Option.some.inj hf)]
      exact zz_thr C hst hP hS (cls := "java/lang/IllegalArgumentException") (text := "set is less than 0, or has a UNIT that there is not") (ik := 77) (is := 196) (ic := 81) (by decide +kernel) zj_X8_order_IA.1 zj_X8_order_IA.2.1 (by decide +kernel) zj_X8_order_IA.2.2.1 zj_X8_order_IA.2.2.2 (by decide) hl dX8_order_16 dX8_order_19 dX8_order_20 dX8_order_22 dX8_order_25 hxt (by decide) (by decide) (by decide) (by decide)
/-! X8_plan PX -/
abbrev zr_X8_planx : Room := { frames := 6, cells := 1, slots := 6, locals := 132 }
theorem zj_X8_plan_IA : Cond.classLink yX8_plan.cls 77 "java/lang/IllegalArgumentException" ∈ wsX8_plan ∧ Cond.initialized "java/lang/IllegalArgumentException" ∈ wsX8_plan ∧ (∀ w ∈ vx_atS yX8_plan.cls 81 "java/lang/IllegalArgumentException" ["java/lang/RuntimeException", "java/lang/Exception"], w ∈ wsX8_plan ∨ w ∈ zz_bad) ∧ ∀ w ∈ Cond.classLink yX8_plan.cls 77 "java/lang/IllegalArgumentException" :: Cond.initialized "java/lang/IllegalArgumentException" :: vx_atS yX8_plan.cls 81 "java/lang/IllegalArgumentException" ["java/lang/RuntimeException", "java/lang/Exception"], vx_ot w = true := by decide +kernel
theorem zj_X8_plan_IO : Cond.classLink yX8_plan.cls 105 "java/lang/IndexOutOfBoundsException" ∈ wsX8_plan ∧ Cond.initialized "java/lang/IndexOutOfBoundsException" ∈ wsX8_plan ∧ (∀ w ∈ vx_atS yX8_plan.cls 109 "java/lang/IndexOutOfBoundsException" ["java/lang/RuntimeException", "java/lang/Exception"], w ∈ wsX8_plan ∨ w ∈ zz_bad) ∧ ∀ w ∈ Cond.classLink yX8_plan.cls 105 "java/lang/IndexOutOfBoundsException" :: Cond.initialized "java/lang/IndexOutOfBoundsException" :: vx_atS yX8_plan.cls 109 "java/lang/IndexOutOfBoundsException" ["java/lang/RuntimeException", "java/lang/Exception"], vx_ot w = true := by decide +kernel
theorem zj_X8_plan_IS : Cond.classLink yX8_plan.cls 92 "java/lang/IllegalStateException" ∈ wsX8_plan ∧ Cond.initialized "java/lang/IllegalStateException" ∈ wsX8_plan ∧ (∀ w ∈ vx_atS yX8_plan.cls 96 "java/lang/IllegalStateException" ["java/lang/RuntimeException", "java/lang/Exception"], w ∈ wsX8_plan ∨ w ∈ zz_bad) ∧ ∀ w ∈ Cond.classLink yX8_plan.cls 92 "java/lang/IllegalStateException" :: Cond.initialized "java/lang/IllegalStateException" :: vx_atS yX8_plan.cls 96 "java/lang/IllegalStateException" ["java/lang/RuntimeException", "java/lang/Exception"], vx_ot w = true := by decide +kernel
def zX8_planx (v1 : Int32) (v2 : Int32) (st : zz_T) : Option (Option Int32 × zz_T) :=
  if (zX7_has v1 st) = true then
    if (zX8_isNoTickToPlan v2 st) = true then
      some (none, st)
    else
      (zX8_countWaitingPaths v1 st).bind fun x1 =>
      if x1 ≤ 0 then
        if (zX8_isNotPlannable v1 st) = true then
          some (none, st)
        else
          zz_v (zX2_copyFrom 11 6 st) fun st3 =>
          (zX8_planUnit v1 (zX7_get v1 3 st3) v2 st3).bind fun x5 =>
          if x5.1 < 0 then
            some (some x5.1, x5.2)
          else
            zz_v (zX2_copyFrom 6 11 x5.2) fun st7 =>
            some (some x5.1, st7)
      else
        some (none, st)
  else
    some (none, st)
set_option maxHeartbeats 4000000 in
set_option maxRecDepth 100000 in
theorem zx_X8_plan {l : Launch} {A : Nat → Prop} {D : va_G} {cI : ClassId} {q : Nat → Nat} (hst : l.stackTraces = false) (v1 : Int32) (v2 : Int32) (st : zz_T) (r : (Option Int32 × zz_T)) (hf : zX8_planx v1 v2 st = some r) : zz_Mx l A D cI q yX8_plan wsX8_plan zr_X8_planx [.ref (q 0), .int v1, .int v2] st r := by
  refine zz_ofx (cc := cX8_plan) (nL := 4) (ret := some .int) (by decide) rfl (Nat.le_of_ble_eq_true rfl) ?_
  intro p e s m args below meth c ls C hr hxt hP hS hl
  obtain ⟨hx, hb, hml, hown, hts⟩ := id C.1
  have hl : lv_has ls 4 [(0, .ref (q 0)), (1, .int v1), (2, .int v2)] := hl
  rw [zX8_planx] at hf
  skip
  refine lv_aload_n hx hb dX8_plan_0 rfl (lv_at hl 0 rfl) ?_
  refine zz_getf C zi_X8_plan_X8 hP 0 rfl rfl 1 (nm := "units") (ds := "LThirteenthDay$Units;") (fin := true) rfl (by decide) zk_X8_plan_19 rfl dX8_plan_1 ?_
  refine lv_iload_n hx hb dX8_plan_4 rfl (lv_at hl 1 rfl) ?_
  refine zz_callVi C (As := [.int v1]) (rest := []) (zc_X7_has _ _) (cwV 1 hts gX8_plan_X7_has rfl rfl rfl zd_X7_has ⟨Nat.le_of_ble_eq_true rfl, Nat.le_of_ble_eq_true rfl⟩) hP hS 2 rfl rfl rfl hl rfl (Nat.le_of_ble_eq_true rfl) dX8_plan_5 ⟨Nat.zero_le _, Nat.zero_le _⟩ (fun H locs hP hS => ?_)
  refine lv_if_ne (tgt := 21) hx hb dX8_plan_8 (by decide) (fun h => ?_) (fun h => ?_)
  · rw [zz_if1 (zz_b1 h)] at hf
    refine lv_aload_n hx hb dX8_plan_21 rfl (lv_at hl 0 rfl) ?_
    refine lv_iload_n hx hb dX8_plan_22 rfl (lv_at hl 2 rfl) ?_
    refine zz_callVi C (As := [.int v2]) (rest := []) (zc_X8_isNoTickToPlan _ _) (cwV 1 hts gX8_plan_X8_isNoTickToPlan rfl rfl rfl zd_X8_isNoTickToPlan ⟨Nat.le_of_ble_eq_true rfl, Nat.le_of_ble_eq_true rfl⟩) hP hS 0 rfl rfl rfl hl rfl (Nat.le_of_ble_eq_true rfl) dX8_plan_23 ⟨Nat.zero_le _, Nat.zero_le _⟩ (fun H locs hP hS => ?_)
    refine lv_if_eq (tgt := 39) hx hb dX8_plan_26 (by decide) (fun h => ?_) (fun h => ?_)
    · rw [zz_if0 (zz_b0 h)] at hf
      refine lv_aload_n hx hb dX8_plan_39 rfl (lv_at hl 0 rfl) ?_
      refine lv_iload_n hx hb dX8_plan_40 rfl (lv_at hl 1 rfl) ?_
      obtain ⟨x1, e2, hf⟩ := zz_bo hf
      refine zz_callVi C (As := [.int v1]) (rest := []) (zc_X8_countWaitingPaths _ _ _ e2) (cwV 1 hts gX8_plan_X8_countWaitingPaths rfl rfl rfl zd_X8_countWaitingPaths ⟨Nat.le_of_ble_eq_true rfl, Nat.le_of_ble_eq_true rfl⟩) hP hS 0 rfl rfl rfl hl rfl (Nat.le_of_ble_eq_true rfl) dX8_plan_41 ⟨Nat.zero_le _, Nat.zero_le _⟩ (fun H locs hP hS => ?_)
      refine lv_if_le (tgt := 57) hx hb dX8_plan_44 (by decide) (fun h => ?_) (fun h => ?_)
      · rw [if_pos h] at hf
        refine lv_aload_n hx hb dX8_plan_57 rfl (lv_at hl 0 rfl) ?_
        refine lv_iload_n hx hb dX8_plan_58 rfl (lv_at hl 1 rfl) ?_
        refine zz_callVi C (As := [.int v1]) (rest := []) (zc_X8_isNotPlannable _ _) (cwV 1 hts gX8_plan_X8_isNotPlannable rfl rfl rfl zd_X8_isNotPlannable ⟨Nat.le_of_ble_eq_true rfl, Nat.le_of_ble_eq_true rfl⟩) hP hS 0 rfl rfl rfl hl rfl (Nat.le_of_ble_eq_true rfl) dX8_plan_59 ⟨Nat.zero_le _, Nat.zero_le _⟩ (fun H locs hP hS => ?_)
        refine lv_if_eq (tgt := 75) hx hb dX8_plan_62 (by decide) (fun h => ?_) (fun h => ?_)
        · rw [zz_if0 (zz_b0 h)] at hf
          refine lv_aload_n hx hb dX8_plan_75 rfl (lv_at hl 0 rfl) ?_
          refine zz_getf C zi_X8_plan_X8 hP 0 rfl rfl 3 (nm := "trial") (ds := "LThirteenthDay$Paths;") (fin := true) rfl (by decide) zk_X8_plan_30 rfl dX8_plan_76 ?_
          refine lv_aload_n hx hb dX8_plan_79 rfl (lv_at hl 0 rfl) ?_
          refine zz_getf C zi_X8_plan_X8 hP 0 rfl rfl 2 (nm := "paths") (ds := "LThirteenthDay$Paths;") (fin := true) rfl (by decide) zk_X8_plan_26 rfl dX8_plan_80 ?_
          obtain ⟨st3, e4, hf⟩ := zz_vo hf
          refine zz_callVv C (As := [.ref (q 3)]) (rest := []) (zz_Mv_e e4 (zc_X2_copyFrom 4 11 (by decide) 3 6 (by decide) (by decide) _)) (cwV 1 hts gX8_plan_X2_copyFrom rfl rfl rfl zd_X2_copyFrom ⟨Nat.le_of_ble_eq_true rfl, Nat.le_of_ble_eq_true rfl⟩) hP hS 4 rfl rfl rfl hl rfl (Nat.le_of_ble_eq_true rfl) dX8_plan_83 ⟨Nat.zero_le _, Nat.zero_le _⟩ (fun H locs hP hS => ?_)
          refine lv_aload_n hx hb dX8_plan_86 rfl (lv_at hl 0 rfl) ?_
          refine lv_iload_n hx hb dX8_plan_87 rfl (lv_at hl 1 rfl) ?_
          refine lv_aload_n hx hb dX8_plan_88 rfl (lv_at hl 0 rfl) ?_
          refine zz_getf C zi_X8_plan_X8 hP 0 rfl rfl 1 (nm := "units") (ds := "LThirteenthDay$Units;") (fin := true) rfl (by decide) zk_X8_plan_19 rfl dX8_plan_89 ?_
          refine lv_iload_n hx hb dX8_plan_92 rfl (lv_at hl 1 rfl) ?_
          refine lv_iconst (v := 3) hx hb dX8_plan_93 (by decide) ?_
          refine zz_callVi C (As := [.int v1, .int 3]) (rest := [.int v1, .ref (q 0)]) (zc_X7_get _ _ _) (cwV 2 hts gX8_plan_X7_get rfl rfl rfl zd_X7_get ⟨Nat.le_of_ble_eq_true rfl, Nat.le_of_ble_eq_true rfl⟩) hP hS 2 rfl rfl rfl hl rfl (Nat.le_of_ble_eq_true rfl) dX8_plan_94 ⟨Nat.zero_le _, Nat.zero_le _⟩ (fun H locs hP hS => ?_)
          refine lv_iload_n hx hb dX8_plan_97 rfl (lv_at hl 2 rfl) ?_
          obtain ⟨x5, e6, hf⟩ := zz_bo hf
          refine zz_callVi C (As := [.int v1, .int (zX7_get v1 3 st3), .int v2]) (rest := []) (zc_X8_planUnit _ _ _ _ _ e6) (cwV 3 hts gX8_plan_X8_planUnit rfl rfl rfl zd_X8_planUnit ⟨Nat.le_of_ble_eq_true rfl, Nat.le_of_ble_eq_true rfl⟩) hP hS 0 rfl rfl rfl hl rfl (Nat.le_of_ble_eq_true rfl) dX8_plan_98 ⟨Nat.zero_le _, Nat.zero_le _⟩ (fun H locs hP hS => ?_)
          refine lv_istore_n (lv' := [(3, .int x5.1), (0, .ref (q 0)), (1, .int v1), (2, .int v2)]) hx hb dX8_plan_101 rfl hl (by decide) rfl (fun ls hl => ?_)
          refine lv_iload_n hx hb dX8_plan_102 rfl (lv_at hl 0 rfl) ?_
          refine lv_if_lt (tgt := 117) hx hb dX8_plan_103 (by decide) (fun h => ?_) (fun h => ?_)
          · rw [if_pos h] at hf
            refine lv_iload_n hx hb dX8_plan_117 rfl (lv_at hl 0 rfl) ?_
            rw [← (Option.some.inj hf)]
            exact zz_retxi C hr hP hS dX8_plan_118
          · rw [if_neg h] at hf
            refine lv_aload_n hx hb dX8_plan_106 rfl (lv_at hl 1 rfl) ?_
            refine zz_getf C zi_X8_plan_X8 hP 0 rfl rfl 2 (nm := "paths") (ds := "LThirteenthDay$Paths;") (fin := true) rfl (by decide) zk_X8_plan_26 rfl dX8_plan_107 ?_
            refine lv_aload_n hx hb dX8_plan_110 rfl (lv_at hl 1 rfl) ?_
            refine zz_getf C zi_X8_plan_X8 hP 0 rfl rfl 3 (nm := "trial") (ds := "LThirteenthDay$Paths;") (fin := true) rfl (by decide) zk_X8_plan_30 rfl dX8_plan_111 ?_
            obtain ⟨st7, e8, hf⟩ := zz_vo hf
            refine zz_callVv C (As := [.ref (q 4)]) (rest := []) (zz_Mv_e e8 (zc_X2_copyFrom 3 6 (by decide) 4 11 (by decide) (by decide) _)) (cwV 1 hts gX8_plan_X2_copyFrom rfl rfl rfl zd_X2_copyFrom ⟨Nat.le_of_ble_eq_true rfl, Nat.le_of_ble_eq_true rfl⟩) hP hS 3 rfl rfl rfl hl rfl (Nat.le_of_ble_eq_true rfl) dX8_plan_114 ⟨Nat.zero_le _, Nat.zero_le _⟩ (fun H locs hP hS => ?_)
            refine lv_iload_n hx hb dX8_plan_117 rfl (lv_at hl 0 rfl) ?_
            rw [← (Option.some.inj hf)]
            exact zz_retxi C hr hP hS dX8_plan_118
        · rw [zz_if1 (zz_b1 h)] at hf
          rw [← (Option.some.inj hf)]
          exact zz_thr C hst hP hS (cls := "java/lang/IllegalStateException") (text := "the UNIT is STOPPED, gone, or without a RAILHEAD") (ik := 92) (is := 233) (ic := 96) (by decide +kernel) zj_X8_plan_IS.1 zj_X8_plan_IS.2.1 (by decide +kernel) zj_X8_plan_IS.2.2.1 zj_X8_plan_IS.2.2.2 (by decide) hl dX8_plan_65 dX8_plan_68 dX8_plan_69 dX8_plan_71 dX8_plan_74 hxt (by decide) (by decide) (by decide) (by decide)
      · rw [if_neg h] at hf
        rw [← (Option.some.inj hf)]
        exact zz_thr C hst hP hS (cls := "java/lang/IllegalStateException") (text := "a LOAD that has not gone has a PATH") (ik := 92) (is := 228) (ic := 96) (by decide +kernel) zj_X8_plan_IS.1 zj_X8_plan_IS.2.1 (by decide +kernel) zj_X8_plan_IS.2.2.1 zj_X8_plan_IS.2.2.2 (by decide) hl dX8_plan_47 dX8_plan_50 dX8_plan_51 dX8_plan_53 dX8_plan_56 hxt (by decide) (by decide) (by decide) (by decide)
    · rw [zz_if1 (zz_b1 h)] at hf
      rw [← (Option.some.inj hf)]
      exact zz_thr C hst hP hS (cls := "java/lang/IllegalArgumentException") (text := "tick is less than TICK, or above 2880") (ik := 77) (is := 223) (ic := 81) (by decide +kernel) zj_X8_plan_IA.1 zj_X8_plan_IA.2.1 (by decide +kernel) zj_X8_plan_IA.2.2.1 zj_X8_plan_IA.2.2.2 (by decide) hl dX8_plan_29 dX8_plan_32 dX8_plan_33 dX8_plan_35 dX8_plan_38 hxt (by decide) (by decide) (by decide) (by decide)
  · rw [zz_if0 (zz_b0 h)] at hf
    rw [← (Option.some.inj hf)]
    exact zz_thr C hst hP hS (cls := "java/lang/IndexOutOfBoundsException") (text := "no such UNIT") (ik := 105) (is := 209) (ic := 109) (by decide +kernel) zj_X8_plan_IO.1 zj_X8_plan_IO.2.1 (by decide +kernel) zj_X8_plan_IO.2.2.1 zj_X8_plan_IO.2.2.2 (by decide) hl dX8_plan_11 dX8_plan_14 dX8_plan_15 dX8_plan_17 dX8_plan_20 hxt (by decide) (by decide) (by decide) (by decide)
/-! X8_stop PX -/
abbrev zr_X8_stopx : Room := { frames := 6, cells := 1, slots := 6, locals := 96 }
theorem zj_X8_stop_IO : Cond.classLink yX8_stop.cls 105 "java/lang/IndexOutOfBoundsException" ∈ wsX8_stop ∧ Cond.initialized "java/lang/IndexOutOfBoundsException" ∈ wsX8_stop ∧ (∀ w ∈ vx_atS yX8_stop.cls 109 "java/lang/IndexOutOfBoundsException" ["java/lang/RuntimeException", "java/lang/Exception"], w ∈ wsX8_stop ∨ w ∈ zz_bad) ∧ ∀ w ∈ Cond.classLink yX8_stop.cls 105 "java/lang/IndexOutOfBoundsException" :: Cond.initialized "java/lang/IndexOutOfBoundsException" :: vx_atS yX8_stop.cls 109 "java/lang/IndexOutOfBoundsException" ["java/lang/RuntimeException", "java/lang/Exception"], vx_ot w = true := by decide +kernel
theorem zj_X8_stop_IS : Cond.classLink yX8_stop.cls 92 "java/lang/IllegalStateException" ∈ wsX8_stop ∧ Cond.initialized "java/lang/IllegalStateException" ∈ wsX8_stop ∧ (∀ w ∈ vx_atS yX8_stop.cls 96 "java/lang/IllegalStateException" ["java/lang/RuntimeException", "java/lang/Exception"], w ∈ wsX8_stop ∨ w ∈ zz_bad) ∧ ∀ w ∈ Cond.classLink yX8_stop.cls 92 "java/lang/IllegalStateException" :: Cond.initialized "java/lang/IllegalStateException" :: vx_atS yX8_stop.cls 96 "java/lang/IllegalStateException" ["java/lang/RuntimeException", "java/lang/Exception"], vx_ot w = true := by decide +kernel
def zX8_stopx (v1 : Int32) (st : zz_T) : Option (Option Int32 × zz_T) :=
  if (zX7_has v1 st) = true then
    zz_v (zX7_get v1 4 st) fun w1 =>
    if w1 = 0 then
      some (none, st)
    else
      if w1 = 3 then
        some (none, st)
      else
        if (zX7_get v1 11 st) = (-1) then
          (zX8_wireTicks v1 st).bind fun x2 =>
          zz_v ((st.2 0) + x2) fun w4 =>
          zz_v (zX7_set v1 11 w4 st) fun st5 =>
          some (some w4, st5)
        else
          some (none, st)
  else
    some (none, st)
set_option maxHeartbeats 4000000 in
set_option maxRecDepth 100000 in
theorem zx_X8_stop {l : Launch} {A : Nat → Prop} {D : va_G} {cI : ClassId} {q : Nat → Nat} (hst : l.stackTraces = false) (v1 : Int32) (st : zz_T) (r : (Option Int32 × zz_T)) (hf : zX8_stopx v1 st = some r) : zz_Mx l A D cI q yX8_stop wsX8_stop zr_X8_stopx [.ref (q 0), .int v1] st r := by
  refine zz_ofx (cc := cX8_stop) (nL := 4) (ret := some .int) (by decide) rfl (Nat.le_of_ble_eq_true rfl) ?_
  intro p e s m args below meth c ls C hr hxt hP hS hl
  obtain ⟨hx, hb, hml, hown, hts⟩ := id C.1
  have hl : lv_has ls 4 [(0, .ref (q 0)), (1, .int v1)] := hl
  rw [zX8_stopx] at hf
  skip
  refine lv_aload_n hx hb dX8_stop_0 rfl (lv_at hl 0 rfl) ?_
  refine zz_getf C zi_X8_stop_X8 hP 0 rfl rfl 1 (nm := "units") (ds := "LThirteenthDay$Units;") (fin := true) rfl (by decide) zk_X8_stop_19 rfl dX8_stop_1 ?_
  refine lv_iload_n hx hb dX8_stop_4 rfl (lv_at hl 1 rfl) ?_
  refine zz_callVi C (As := [.int v1]) (rest := []) (zc_X7_has _ _) (cwV 1 hts gX8_stop_X7_has rfl rfl rfl zd_X7_has ⟨Nat.le_of_ble_eq_true rfl, Nat.le_of_ble_eq_true rfl⟩) hP hS 2 rfl rfl rfl hl rfl (Nat.le_of_ble_eq_true rfl) dX8_stop_5 ⟨Nat.zero_le _, Nat.zero_le _⟩ (fun H locs hP hS => ?_)
  refine lv_if_ne (tgt := 21) hx hb dX8_stop_8 (by decide) (fun h => ?_) (fun h => ?_)
  · rw [zz_if1 (zz_b1 h)] at hf
    refine lv_aload_n hx hb dX8_stop_21 rfl (lv_at hl 0 rfl) ?_
    refine zz_getf C zi_X8_stop_X8 hP 0 rfl rfl 1 (nm := "units") (ds := "LThirteenthDay$Units;") (fin := true) rfl (by decide) zk_X8_stop_19 rfl dX8_stop_22 ?_
    refine lv_iload_n hx hb dX8_stop_25 rfl (lv_at hl 1 rfl) ?_
    refine lv_iconst (v := 4) hx hb dX8_stop_26 (by decide) ?_
    refine zz_callVi C (As := [.int v1, .int 4]) (rest := []) (zc_X7_get _ _ _) (cwV 2 hts gX8_stop_X7_get rfl rfl rfl zd_X7_get ⟨Nat.le_of_ble_eq_true rfl, Nat.le_of_ble_eq_true rfl⟩) hP hS 2 rfl rfl rfl hl rfl (Nat.le_of_ble_eq_true rfl) dX8_stop_27 ⟨Nat.zero_le _, Nat.zero_le _⟩ (fun H locs hP hS => ?_)
    refine lv_topi (fun w1 e1 => ?_)
    replace hf := zz_vi hf e1
    refine lv_istore_n (lv' := [(2, .int w1), (0, .ref (q 0)), (1, .int v1)]) hx hb dX8_stop_30 rfl hl (by decide) rfl (fun ls hl => ?_)
    refine lv_iload_n hx hb dX8_stop_31 rfl (lv_at hl 0 rfl) ?_
    refine lv_if_eq (tgt := 40) hx hb dX8_stop_32 (by decide) (fun h => ?_) (fun h => ?_)
    · rw [if_pos h] at hf
      rw [← (Option.some.inj hf)]
      exact zz_thr C hst hP hS (cls := "java/lang/IllegalStateException") (text := "the UNIT is at PEACE or STOPPED") (ik := 92) (is := 211) (ic := 96) (by decide +kernel) zj_X8_stop_IS.1 zj_X8_stop_IS.2.1 (by decide +kernel) zj_X8_stop_IS.2.2.1 zj_X8_stop_IS.2.2.2 (by decide) hl dX8_stop_40 dX8_stop_43 dX8_stop_44 dX8_stop_46 dX8_stop_49 hxt (by decide) (by decide) (by decide) (by decide)
    · rw [if_neg h] at hf
      refine lv_iload_n hx hb dX8_stop_35 rfl (lv_at hl 0 rfl) ?_
      refine lv_iconst (v := 3) hx hb dX8_stop_36 (by decide) ?_
      refine lv_icmp_ne (tgt := 50) hx hb dX8_stop_37 (by decide) (fun h => ?_) (fun h => ?_)
      · rw [if_neg h] at hf
        refine lv_aload_n hx hb dX8_stop_50 rfl (lv_at hl 1 rfl) ?_
        refine zz_getf C zi_X8_stop_X8 hP 0 rfl rfl 1 (nm := "units") (ds := "LThirteenthDay$Units;") (fin := true) rfl (by decide) zk_X8_stop_19 rfl dX8_stop_51 ?_
        refine lv_iload_n hx hb dX8_stop_54 rfl (lv_at hl 2 rfl) ?_
        refine lv_bipush (v := 11) hx hb dX8_stop_55 (by decide) ?_
        refine zz_callVi C (As := [.int v1, .int 11]) (rest := []) (zc_X7_get _ _ _) (cwV 2 hts gX8_stop_X7_get rfl rfl rfl zd_X7_get ⟨Nat.le_of_ble_eq_true rfl, Nat.le_of_ble_eq_true rfl⟩) hP hS 2 rfl rfl rfl hl rfl (Nat.le_of_ble_eq_true rfl) dX8_stop_57 ⟨Nat.zero_le _, Nat.zero_le _⟩ (fun H locs hP hS => ?_)
        refine lv_iconst (v := (-1)) hx hb dX8_stop_60 (by decide) ?_
        refine lv_icmp_eq (tgt := 74) hx hb dX8_stop_61 (by decide) (fun h => ?_) (fun h => ?_)
        · rw [if_pos h] at hf
          refine lv_aload_n hx hb dX8_stop_74 rfl (lv_at hl 1 rfl) ?_
          refine zz_getf C zi_X8_stop_X8 hP 0 rfl rfl 9 (nm := "tick") (ds := "I") (fin := false) rfl (by decide) zk_X8_stop_70 rfl dX8_stop_75 ?_
          refine lv_aload_n hx hb dX8_stop_78 rfl (lv_at hl 1 rfl) ?_
          refine lv_iload_n hx hb dX8_stop_79 rfl (lv_at hl 2 rfl) ?_
          obtain ⟨x2, e3, hf⟩ := zz_bo hf
          refine zz_callVi C (As := [.int v1]) (rest := [.int (st.2 0)]) (zc_X8_wireTicks _ _ _ e3) (cwV 1 hts gX8_stop_X8_wireTicks rfl rfl rfl zd_X8_wireTicks ⟨Nat.le_of_ble_eq_true rfl, Nat.le_of_ble_eq_true rfl⟩) hP hS 0 rfl rfl rfl hl rfl (Nat.le_of_ble_eq_true rfl) dX8_stop_80 ⟨Nat.zero_le _, Nat.zero_le _⟩ (fun H locs hP hS => ?_)
          refine lv_iadd hx hb dX8_stop_83 ?_
          refine lv_topi (fun w4 e4 => ?_)
          replace hf := zz_vi hf e4
          refine lv_istore_n (lv' := [(3, .int w4), (2, .int w1), (0, .ref (q 0)), (1, .int v1)]) hx hb dX8_stop_84 rfl hl (by decide) rfl (fun ls hl => ?_)
          refine lv_aload_n hx hb dX8_stop_85 rfl (lv_at hl 2 rfl) ?_
          refine zz_getf C zi_X8_stop_X8 hP 0 rfl rfl 1 (nm := "units") (ds := "LThirteenthDay$Units;") (fin := true) rfl (by decide) zk_X8_stop_19 rfl dX8_stop_86 ?_
          refine lv_iload_n hx hb dX8_stop_89 rfl (lv_at hl 3 rfl) ?_
          refine lv_bipush (v := 11) hx hb dX8_stop_90 (by decide) ?_
          refine lv_iload_n hx hb dX8_stop_92 rfl (lv_at hl 0 rfl) ?_
          obtain ⟨st5, e6, hf⟩ := zz_vo hf
          refine zz_callVv C (As := [.int v1, .int 11, .int w4]) (rest := []) (zz_Mv_e e6 (zc_X7_set _ _ _ _)) (cwV 3 hts gX8_stop_X7_set rfl rfl rfl zd_X7_set ⟨Nat.le_of_ble_eq_true rfl, Nat.le_of_ble_eq_true rfl⟩) hP hS 2 rfl rfl rfl hl rfl (Nat.le_of_ble_eq_true rfl) dX8_stop_93 ⟨Nat.zero_le _, Nat.zero_le _⟩ (fun H locs hP hS => ?_)
          refine lv_iload_n hx hb dX8_stop_96 rfl (lv_at hl 0 rfl) ?_
          rw [← (Option.some.inj hf)]
          exact zz_retxi C hr hP hS dX8_stop_97
        · rw [if_neg h] at hf
          rw [← (Option.some.inj hf)]
          exact zz_thr C hst hP hS (cls := "java/lang/IllegalStateException") (text := "a wire to STOP the UNIT is on its way") (ik := 92) (is := 213) (ic := 96) (by decide +kernel) zj_X8_stop_IS.1 zj_X8_stop_IS.2.1 (by decide +kernel) zj_X8_stop_IS.2.2.1 zj_X8_stop_IS.2.2.2 (by decide) hl dX8_stop_64 dX8_stop_67 dX8_stop_68 dX8_stop_70 dX8_stop_73 hxt (by decide) (by decide) (by decide) (by decide)
      · rw [if_pos h] at hf
        rw [← (Option.some.inj hf)]
        exact zz_thr C hst hP hS (cls := "java/lang/IllegalStateException") (text := "the UNIT is at PEACE or STOPPED") (ik := 92) (is := 211) (ic := 96) (by decide +kernel) zj_X8_stop_IS.1 zj_X8_stop_IS.2.1 (by decide +kernel) zj_X8_stop_IS.2.2.1 zj_X8_stop_IS.2.2.2 (by decide) hl dX8_stop_40 dX8_stop_43 dX8_stop_44 dX8_stop_46 dX8_stop_49 hxt (by decide) (by decide) (by decide) (by decide)
  · rw [zz_if0 (zz_b0 h)] at hf
    rw [← (Option.some.inj hf)]
    exact zz_thr C hst hP hS (cls := "java/lang/IndexOutOfBoundsException") (text := "no such UNIT") (ik := 105) (is := 209) (ic := 109) (by decide +kernel) zj_X8_stop_IO.1 zj_X8_stop_IO.2.1 (by decide +kernel) zj_X8_stop_IO.2.2.1 zj_X8_stop_IO.2.2.2 (by decide) hl dX8_stop_11 dX8_stop_14 dX8_stop_15 dX8_stop_17 dX8_stop_20 hxt (by decide) (by decide) (by decide) (by decide)
/-! X8_change PX -/
abbrev zr_X8_changex : Room := { frames := 6, cells := 1, slots := 6, locals := 156 }
theorem zj_X8_change_IO : Cond.classLink yX8_change.cls 105 "java/lang/IndexOutOfBoundsException" ∈ wsX8_change ∧ Cond.initialized "java/lang/IndexOutOfBoundsException" ∈ wsX8_change ∧ (∀ w ∈ vx_atS yX8_change.cls 109 "java/lang/IndexOutOfBoundsException" ["java/lang/RuntimeException", "java/lang/Exception"], w ∈ wsX8_change ∨ w ∈ zz_bad) ∧ ∀ w ∈ Cond.classLink yX8_change.cls 105 "java/lang/IndexOutOfBoundsException" :: Cond.initialized "java/lang/IndexOutOfBoundsException" :: vx_atS yX8_change.cls 109 "java/lang/IndexOutOfBoundsException" ["java/lang/RuntimeException", "java/lang/Exception"], vx_ot w = true := by decide +kernel
theorem zj_X8_change_IS : Cond.classLink yX8_change.cls 92 "java/lang/IllegalStateException" ∈ wsX8_change ∧ Cond.initialized "java/lang/IllegalStateException" ∈ wsX8_change ∧ (∀ w ∈ vx_atS yX8_change.cls 96 "java/lang/IllegalStateException" ["java/lang/RuntimeException", "java/lang/Exception"], w ∈ wsX8_change ∨ w ∈ zz_bad) ∧ ∀ w ∈ Cond.classLink yX8_change.cls 92 "java/lang/IllegalStateException" :: Cond.initialized "java/lang/IllegalStateException" :: vx_atS yX8_change.cls 96 "java/lang/IllegalStateException" ["java/lang/RuntimeException", "java/lang/Exception"], vx_ot w = true := by decide +kernel
def zX8_changex (v1 : Int32) (st : zz_T) : Option (Option Int32 × zz_T) :=
  if v1 < 0 then
    some (none, st)
  else
    if v1 < 4 then
      if (st.2 0) ≤ 2808 then
        (zX8_tryChange v1 st).bind fun x1 =>
        if x1.1 < 0 then
          some (some x1.1, x1.2)
        else
          zz_v (zX2_copyFrom 6 11 x1.2) fun st3 =>
          (zX8_takeAims v1 st3).bind fun st5 =>
          some (some x1.1, st5)
      else
        some (none, st)
    else
      some (none, st)
set_option maxHeartbeats 4000000 in
set_option maxRecDepth 100000 in
theorem zx_X8_change {l : Launch} {A : Nat → Prop} {D : va_G} {cI : ClassId} {q : Nat → Nat} (hst : l.stackTraces = false) (v1 : Int32) (st : zz_T) (r : (Option Int32 × zz_T)) (hf : zX8_changex v1 st = some r) : zz_Mx l A D cI q yX8_change wsX8_change zr_X8_changex [.ref (q 0), .int v1] st r := by
  refine zz_ofx (cc := cX8_change) (nL := 3) (ret := some .int) (by decide) rfl (Nat.le_of_ble_eq_true rfl) ?_
  intro p e s m args below meth c ls C hr hxt hP hS hl
  obtain ⟨hx, hb, hml, hown, hts⟩ := id C.1
  have hl : lv_has ls 3 [(0, .ref (q 0)), (1, .int v1)] := hl
  rw [zX8_changex] at hf
  skip
  refine lv_iload_n hx hb dX8_change_0 rfl (lv_at hl 1 rfl) ?_
  refine lv_if_lt (tgt := 9) hx hb dX8_change_1 (by decide) (fun h => ?_) (fun h => ?_)
  · rw [if_pos h] at hf
    rw [← (Option.some.inj hf)]
    exact zz_thrW C hst hP hS (cls := "java/lang/IndexOutOfBoundsException") (text := "variant is not 0 to 3") (ik := 105) (is := 258) (ic := 109) (by decide +kernel) zj_X8_change_IO.1 zj_X8_change_IO.2.1 (by decide +kernel) zj_X8_change_IO.2.2.1 zj_X8_change_IO.2.2.2 (by decide) hl dX8_change_9 dX8_change_12 dX8_change_13 dX8_change_16 dX8_change_19 hxt (by decide) (by decide) (by decide) (by decide)
  · rw [if_neg h] at hf
    refine lv_iload_n hx hb dX8_change_4 rfl (lv_at hl 1 rfl) ?_
    refine lv_iconst (v := 4) hx hb dX8_change_5 (by decide) ?_
    refine lv_icmp_lt (tgt := 20) hx hb dX8_change_6 (by decide) (fun h => ?_) (fun h => ?_)
    · rw [if_pos h] at hf
      refine lv_aload_n hx hb dX8_change_20 rfl (lv_at hl 0 rfl) ?_
      refine zz_getf C zi_X8_change_X8 hP 0 rfl rfl 9 (nm := "tick") (ds := "I") (fin := false) rfl (by decide) zk_X8_change_70 rfl dX8_change_21 ?_
      refine lv_sipush (v := 2808) hx hb dX8_change_24 (by decide) ?_
      refine lv_icmp_le (tgt := 41) hx hb dX8_change_27 (by decide) (fun h => ?_) (fun h => ?_)
      · rw [if_pos h] at hf
        refine lv_aload_n hx hb dX8_change_41 rfl (lv_at hl 0 rfl) ?_
        refine lv_iload_n hx hb dX8_change_42 rfl (lv_at hl 1 rfl) ?_
        obtain ⟨x1, e2, hf⟩ := zz_bo hf
        refine zz_callVi C (As := [.int v1]) (rest := []) (zc_X8_tryChange _ _ _ e2) (cwV 1 hts gX8_change_X8_tryChange rfl rfl rfl zd_X8_tryChange ⟨Nat.le_of_ble_eq_true rfl, Nat.le_of_ble_eq_true rfl⟩) hP hS 0 rfl rfl rfl hl rfl (Nat.le_of_ble_eq_true rfl) dX8_change_43 ⟨Nat.zero_le _, Nat.zero_le _⟩ (fun H locs hP hS => ?_)
        refine lv_istore_n (lv' := [(2, .int x1.1), (0, .ref (q 0)), (1, .int v1)]) hx hb dX8_change_46 rfl hl (by decide) rfl (fun ls hl => ?_)
        refine lv_iload_n hx hb dX8_change_47 rfl (lv_at hl 0 rfl) ?_
        refine lv_if_lt (tgt := 67) hx hb dX8_change_48 (by decide) (fun h => ?_) (fun h => ?_)
        · rw [if_pos h] at hf
          refine lv_iload_n hx hb dX8_change_67 rfl (lv_at hl 0 rfl) ?_
          rw [← (Option.some.inj hf)]
          exact zz_retxi C hr hP hS dX8_change_68
        · rw [if_neg h] at hf
          refine lv_aload_n hx hb dX8_change_51 rfl (lv_at hl 1 rfl) ?_
          refine zz_getf C zi_X8_change_X8 hP 0 rfl rfl 2 (nm := "paths") (ds := "LThirteenthDay$Paths;") (fin := true) rfl (by decide) zk_X8_change_26 rfl dX8_change_52 ?_
          refine lv_aload_n hx hb dX8_change_55 rfl (lv_at hl 1 rfl) ?_
          refine zz_getf C zi_X8_change_X8 hP 0 rfl rfl 3 (nm := "trial") (ds := "LThirteenthDay$Paths;") (fin := true) rfl (by decide) zk_X8_change_30 rfl dX8_change_56 ?_
          obtain ⟨st3, e4, hf⟩ := zz_vo hf
          refine zz_callVv C (As := [.ref (q 4)]) (rest := []) (zz_Mv_e e4 (zc_X2_copyFrom 3 6 (by decide) 4 11 (by decide) (by decide) _)) (cwV 1 hts gX8_change_X2_copyFrom rfl rfl rfl zd_X2_copyFrom ⟨Nat.le_of_ble_eq_true rfl, Nat.le_of_ble_eq_true rfl⟩) hP hS 3 rfl rfl rfl hl rfl (Nat.le_of_ble_eq_true rfl) dX8_change_59 ⟨Nat.zero_le _, Nat.zero_le _⟩ (fun H locs hP hS => ?_)
          refine lv_aload_n hx hb dX8_change_62 rfl (lv_at hl 1 rfl) ?_
          refine lv_iload_n hx hb dX8_change_63 rfl (lv_at hl 2 rfl) ?_
          obtain ⟨st5, e6, hf⟩ := zz_bo hf
          refine zz_callVv C (As := [.int v1]) (rest := []) (zc_X8_takeAims _ _ _ e6) (cwV 1 hts gX8_change_X8_takeAims rfl rfl rfl zd_X8_takeAims ⟨Nat.le_of_ble_eq_true rfl, Nat.le_of_ble_eq_true rfl⟩) hP hS 0 rfl rfl rfl hl rfl (Nat.le_of_ble_eq_true rfl) dX8_change_64 ⟨Nat.zero_le _, Nat.zero_le _⟩ (fun H locs hP hS => ?_)
          refine lv_iload_n hx hb dX8_change_67 rfl (lv_at hl 0 rfl) ?_
          rw [← (Option.some.inj hf)]
          exact zz_retxi C hr hP hS dX8_change_68
      · rw [if_neg h] at hf
        rw [← (Option.some.inj hf)]
        exact zz_thrW C hst hP hS (cls := "java/lang/IllegalStateException") (text := "TICK is above 2808") (ik := 92) (is := 261) (ic := 96) (by decide +kernel) zj_X8_change_IS.1 zj_X8_change_IS.2.1 (by decide +kernel) zj_X8_change_IS.2.2.1 zj_X8_change_IS.2.2.2 (by decide) hl dX8_change_30 dX8_change_33 dX8_change_34 dX8_change_37 dX8_change_40 hxt (by decide) (by decide) (by decide) (by decide)
    · rw [if_neg h] at hf
      rw [← (Option.some.inj hf)]
      exact zz_thrW C hst hP hS (cls := "java/lang/IndexOutOfBoundsException") (text := "variant is not 0 to 3") (ik := 105) (is := 258) (ic := 109) (by decide +kernel) zj_X8_change_IO.1 zj_X8_change_IO.2.1 (by decide +kernel) zj_X8_change_IO.2.2.1 zj_X8_change_IO.2.2.2 (by decide) hl dX8_change_9 dX8_change_12 dX8_change_13 dX8_change_16 dX8_change_19 hxt (by decide) (by decide) (by decide) (by decide)
/-! X8_aim PX -/
abbrev zr_X8_aimx : Room := { frames := 6, cells := 1, slots := 6, locals := 96 }
theorem zj_X8_aim_IO : Cond.classLink yX8_aim.cls 105 "java/lang/IndexOutOfBoundsException" ∈ wsX8_aim ∧ Cond.initialized "java/lang/IndexOutOfBoundsException" ∈ wsX8_aim ∧ (∀ w ∈ vx_atS yX8_aim.cls 109 "java/lang/IndexOutOfBoundsException" ["java/lang/RuntimeException", "java/lang/Exception"], w ∈ wsX8_aim ∨ w ∈ zz_bad) ∧ ∀ w ∈ Cond.classLink yX8_aim.cls 105 "java/lang/IndexOutOfBoundsException" :: Cond.initialized "java/lang/IndexOutOfBoundsException" :: vx_atS yX8_aim.cls 109 "java/lang/IndexOutOfBoundsException" ["java/lang/RuntimeException", "java/lang/Exception"], vx_ot w = true := by decide +kernel
def zX8_aimx (v1 : Int32) (v2 : Int32) (v3 : Int32) (st : zz_T) : Option (Option Int32 × zz_T) :=
  if v1 < 0 then
    some (none, st)
  else
    if v1 < 4 then
      if (zX7_has v2 st) = true then
        if (zX8_isNoSector v3 st) = true then
          some (none, st)
        else
          zz_v (zz_g 23 v1 v2 st) fun w1 =>
          zz_v (zz_set 23 v1 v2 v3 st) fun st2 =>
          some (some w1, st2)
      else
        some (none, st)
    else
      some (none, st)
set_option maxHeartbeats 4000000 in
set_option maxRecDepth 100000 in
theorem zx_X8_aim {l : Launch} {A : Nat → Prop} {D : va_G} {cI : ClassId} {q : Nat → Nat} (hst : l.stackTraces = false) (v1 : Int32) (v2 : Int32) (v3 : Int32) (st : zz_T) (r : (Option Int32 × zz_T)) (hf : zX8_aimx v1 v2 v3 st = some r) : zz_Mx l A D cI q yX8_aim wsX8_aim zr_X8_aimx [.ref (q 0), .int v1, .int v2, .int v3] st r := by
  refine zz_ofx (cc := cX8_aim) (nL := 5) (ret := some .int) (by decide) rfl (Nat.le_of_ble_eq_true rfl) ?_
  intro p e s m args below meth c ls C hr hxt hP hS hl
  obtain ⟨hx, hb, hml, hown, hts⟩ := id C.1
  have hl : lv_has ls 5 [(0, .ref (q 0)), (1, .int v1), (2, .int v2), (3, .int v3)] := hl
  rw [zX8_aimx] at hf
  skip
  refine lv_iload_n hx hb dX8_aim_0 rfl (lv_at hl 1 rfl) ?_
  refine lv_if_lt (tgt := 9) hx hb dX8_aim_1 (by decide) (fun h => ?_) (fun h => ?_)
  · rw [if_pos h] at hf
    rw [← (Option.some.inj hf)]
    exact zz_thrW C hst hP hS (cls := "java/lang/IndexOutOfBoundsException") (text := "variant is not 0 to 3") (ik := 105) (is := 258) (ic := 109) (by decide +kernel) zj_X8_aim_IO.1 zj_X8_aim_IO.2.1 (by decide +kernel) zj_X8_aim_IO.2.2.1 zj_X8_aim_IO.2.2.2 (by decide) hl dX8_aim_9 dX8_aim_12 dX8_aim_13 dX8_aim_16 dX8_aim_19 hxt (by decide) (by decide) (by decide) (by decide)
  · rw [if_neg h] at hf
    refine lv_iload_n hx hb dX8_aim_4 rfl (lv_at hl 1 rfl) ?_
    refine lv_iconst (v := 4) hx hb dX8_aim_5 (by decide) ?_
    refine lv_icmp_lt (tgt := 20) hx hb dX8_aim_6 (by decide) (fun h => ?_) (fun h => ?_)
    · rw [if_pos h] at hf
      refine lv_aload_n hx hb dX8_aim_20 rfl (lv_at hl 0 rfl) ?_
      refine zz_getf C zi_X8_aim_X8 hP 0 rfl rfl 1 (nm := "units") (ds := "LThirteenthDay$Units;") (fin := true) rfl (by decide) zk_X8_aim_19 rfl dX8_aim_21 ?_
      refine lv_iload_n hx hb dX8_aim_24 rfl (lv_at hl 2 rfl) ?_
      refine zz_callVi C (As := [.int v2]) (rest := []) (zc_X7_has _ _) (cwV 1 hts gX8_aim_X7_has rfl rfl rfl zd_X7_has ⟨Nat.le_of_ble_eq_true rfl, Nat.le_of_ble_eq_true rfl⟩) hP hS 2 rfl rfl rfl hl rfl (Nat.le_of_ble_eq_true rfl) dX8_aim_25 ⟨Nat.zero_le _, Nat.zero_le _⟩ (fun H locs hP hS => ?_)
      refine lv_if_ne (tgt := 41) hx hb dX8_aim_28 (by decide) (fun h => ?_) (fun h => ?_)
      · rw [zz_if1 (zz_b1 h)] at hf
        refine lv_iload_n hx hb dX8_aim_41 rfl (lv_at hl 3 rfl) ?_
        refine zz_callSi C (As := [.int v3]) (rest := []) (zc_X8_isNoSector _ _) (va_cwS 1 hts gX8_aim_X8_isNoSector rfl rfl rfl zd_X8_isNoSector.2 ⟨Nat.le_of_ble_eq_true rfl, Nat.le_of_ble_eq_true rfl⟩) hP hS rfl hl rfl (Nat.le_of_ble_eq_true rfl) dX8_aim_42 ⟨Nat.zero_le _, Nat.zero_le _⟩ (fun H locs hP hS => ?_)
        refine lv_if_eq (tgt := 58) hx hb dX8_aim_45 (by decide) (fun h => ?_) (fun h => ?_)
        · rw [zz_if0 (zz_b0 h)] at hf
          refine lv_aload_n hx hb dX8_aim_58 rfl (lv_at hl 0 rfl) ?_
          refine zz_getf C zi_X8_aim_X8 hP 0 rfl rfl 8 (nm := "aims") (ds := "LThirteenthDay$Table;") (fin := true) rfl (by decide) zk_X8_aim_66 rfl dX8_aim_59 ?_
          refine lv_iload_n hx hb dX8_aim_62 rfl (lv_at hl 1 rfl) ?_
          refine lv_iload_n hx hb dX8_aim_63 rfl (lv_at hl 2 rfl) ?_
          refine zz_callVi C (As := [.int v1, .int v2]) (rest := []) (zc_X5_get 23 (by decide) _ _ _) (cwV 2 hts gX8_aim_X5_get rfl rfl rfl zd_X5_get ⟨Nat.le_of_ble_eq_true rfl, Nat.le_of_ble_eq_true rfl⟩) hP hS (9 + 23) (zz_c_tab (by decide)) rfl rfl hl rfl (Nat.le_of_ble_eq_true rfl) dX8_aim_64 ⟨Nat.zero_le _, Nat.zero_le _⟩ (fun H locs hP hS => ?_)
          refine lv_topi (fun w1 e1 => ?_)
          replace hf := zz_vi hf e1
          refine lv_istore (lv' := [(4, .int w1), (0, .ref (q 0)), (1, .int v1), (2, .int v2), (3, .int v3)]) hx hb dX8_aim_67 hl (by decide) rfl (fun ls hl => ?_)
          refine lv_aload_n hx hb dX8_aim_69 rfl (lv_at hl 1 rfl) ?_
          refine zz_getf C zi_X8_aim_X8 hP 0 rfl rfl 8 (nm := "aims") (ds := "LThirteenthDay$Table;") (fin := true) rfl (by decide) zk_X8_aim_66 rfl dX8_aim_70 ?_
          refine lv_iload_n hx hb dX8_aim_73 rfl (lv_at hl 2 rfl) ?_
          refine lv_iload_n hx hb dX8_aim_74 rfl (lv_at hl 3 rfl) ?_
          refine lv_iload_n hx hb dX8_aim_75 rfl (lv_at hl 4 rfl) ?_
          obtain ⟨st2, e3, hf⟩ := zz_vo hf
          refine zz_callVv C (As := [.int v1, .int v2, .int v3]) (rest := []) (zz_Mv_e e3 (zc_X5_set 23 (by decide) _ _ _ _)) (cwV 3 hts gX8_aim_X5_set rfl rfl rfl zd_X5_set ⟨Nat.le_of_ble_eq_true rfl, Nat.le_of_ble_eq_true rfl⟩) hP hS (9 + 23) (zz_c_tab (by decide)) rfl rfl hl rfl (Nat.le_of_ble_eq_true rfl) dX8_aim_76 ⟨Nat.zero_le _, Nat.zero_le _⟩ (fun H locs hP hS => ?_)
          refine lv_iload hx hb dX8_aim_79 (lv_at hl 0 rfl) ?_
          rw [← (Option.some.inj hf)]
          exact zz_retxi C hr hP hS dX8_aim_81
        · rw [zz_if1 (zz_b1 h)] at hf
          rw [← (Option.some.inj hf)]
          exact zz_thr C hst hP hS (cls := "java/lang/IndexOutOfBoundsException") (text := "sector is not 0 to 2") (ik := 105) (is := 165) (ic := 109) (by decide +kernel) zj_X8_aim_IO.1 zj_X8_aim_IO.2.1 (by decide +kernel) zj_X8_aim_IO.2.2.1 zj_X8_aim_IO.2.2.2 (by decide) hl dX8_aim_48 dX8_aim_51 dX8_aim_52 dX8_aim_54 dX8_aim_57 hxt (by decide) (by decide) (by decide) (by decide)
      · rw [zz_if0 (zz_b0 h)] at hf
        rw [← (Option.some.inj hf)]
        exact zz_thr C hst hP hS (cls := "java/lang/IndexOutOfBoundsException") (text := "no such UNIT") (ik := 105) (is := 209) (ic := 109) (by decide +kernel) zj_X8_aim_IO.1 zj_X8_aim_IO.2.1 (by decide +kernel) zj_X8_aim_IO.2.2.1 zj_X8_aim_IO.2.2.2 (by decide) hl dX8_aim_31 dX8_aim_34 dX8_aim_35 dX8_aim_37 dX8_aim_40 hxt (by decide) (by decide) (by decide) (by decide)
    · rw [if_neg h] at hf
      rw [← (Option.some.inj hf)]
      exact zz_thrW C hst hP hS (cls := "java/lang/IndexOutOfBoundsException") (text := "variant is not 0 to 3") (ik := 105) (is := 258) (ic := 109) (by decide +kernel) zj_X8_aim_IO.1 zj_X8_aim_IO.2.1 (by decide +kernel) zj_X8_aim_IO.2.2.1 zj_X8_aim_IO.2.2.2 (by decide) hl dX8_aim_9 dX8_aim_12 dX8_aim_13 dX8_aim_16 dX8_aim_19 hxt (by decide) (by decide) (by decide) (by decide)
