/-! J6_compare_7cf53 TR -/
theorem zd_J6_compare_7cf53 : yJ6_compare_7cf53.cls = RJ6 ∧ yJ6_compare_7cf53.cls ≠ "java/lang/invoke/MethodHandle" ∧ yJ6_compare_7cf53.cls ≠ "java/lang/invoke/VarHandle" ∧ (parseMethodDescriptor yJ6_compare_7cf53.desc).map (fun d => d.parameters.length) = some 2 := by decide +kernel
abbrev zr_J6_compare_7cf53 : Room := { frames := 0, cells := 0, slots := 0, locals := 0 }
def zJ6_compare_7cf53 (v0 : Int32) (v1 : Int32) (st : zz_T) : Int32 :=
  if v1 ≤ v0 then
    if v0 = v1 then
      0
    else
      1
  else
    (-1)
set_option maxHeartbeats 4000000 in
set_option maxRecDepth 100000 in
theorem zc_J6_compare_7cf53 {l : Launch} {A : Nat → Prop} {D : va_G} {cI : ClassId} {q : Nat → Nat} (v0 : Int32) (v1 : Int32) (st : zz_T) : zz_Mi l A D cI q yJ6_compare_7cf53 wsJ6_compare_7cf53 zr_J6_compare_7cf53 [.int v0, .int v1] st (zJ6_compare_7cf53 v0 v1 st) st := by
  refine zz_of (cc := cJ6_compare_7cf53) (nL := 2) (ret := some .int) (by decide) rfl (Nat.le_of_ble_eq_true rfl) ?_
  intro p e s m args below meth c ls C hr hP hS hl
  obtain ⟨hx, hb, hml, hown, hts⟩ := id C.1
  have hl : lv_has ls 2 [(0, .int v0), (1, .int v1)] := hl
  obtain ⟨r, hf⟩ : ∃ r, zJ6_compare_7cf53 v0 v1 st = r := ⟨_, rfl⟩
  rw [hf]
  rw [zJ6_compare_7cf53] at hf
  skip
  refine lv_iload_n hx hb dJ6_compare_7cf53_0 rfl (lv_at hl 0 rfl) ?_
  refine lv_iload_n hx hb dJ6_compare_7cf53_1 rfl (lv_at hl 1 rfl) ?_
  refine lv_icmp_ge (tgt := 9) hx hb dJ6_compare_7cf53_2 (by decide) (fun h => ?_) (fun h => ?_)
  · rw [if_pos h] at hf
    refine lv_iload_n hx hb dJ6_compare_7cf53_9 rfl (lv_at hl 0 rfl) ?_
    refine lv_iload_n hx hb dJ6_compare_7cf53_10 rfl (lv_at hl 1 rfl) ?_
    refine lv_icmp_ne (tgt := 18) hx hb dJ6_compare_7cf53_11 (by decide) (fun h => ?_) (fun h => ?_)
    · rw [if_neg h] at hf
      refine lv_iconst (v := 1) hx hb dJ6_compare_7cf53_18 (by decide) ?_
      rw [← hf]
      exact zz_reti C hr hP hS dJ6_compare_7cf53_19
    · rw [if_pos h] at hf
      refine lv_iconst (v := 0) hx hb dJ6_compare_7cf53_14 (by decide) ?_
      refine lv_goto (tgt := 19) hx hb dJ6_compare_7cf53_15 (by decide) ?_
      rw [← hf]
      exact zz_reti C hr hP hS dJ6_compare_7cf53_19
  · rw [if_neg h] at hf
    refine lv_iconst (v := (-1)) hx hb dJ6_compare_7cf53_5 (by decide) ?_
    refine lv_goto (tgt := 19) hx hb dJ6_compare_7cf53_6 (by decide) ?_
    rw [← hf]
    exact zz_reti C hr hP hS dJ6_compare_7cf53_19
/-! X2_copyFrom TW -/
theorem zd_X2_copyFrom : yX2_copyFrom.cls = RX2 ∧ yX2_copyFrom.cls ≠ "java/lang/invoke/MethodHandle" ∧ yX2_copyFrom.cls ≠ "java/lang/invoke/VarHandle" ∧ (parseMethodDescriptor yX2_copyFrom.desc).map (fun d => d.parameters.length) = some 1 := by decide +kernel
abbrev zr_X2_copyFrom : Room := { frames := 1, cells := 0, slots := 0, locals := 22 }
theorem zk_X2_copyFrom_20 : Cond.fieldLink yX2_copyFrom.cls 20 RX2 "facts" "LThirteenthDay$Table;" ∈ wsX2_copyFrom := by decide +kernel
theorem zk_X2_copyFrom_26 : Cond.fieldLink yX2_copyFrom.cls 26 RX2 "steps" "LThirteenthDay$Table;" ∈ wsX2_copyFrom := by decide +kernel
theorem zk_X2_copyFrom_29 : Cond.fieldLink yX2_copyFrom.cls 29 RX2 "offsets" "LThirteenthDay$Table;" ∈ wsX2_copyFrom := by decide +kernel
theorem zk_X2_copyFrom_32 : Cond.fieldLink yX2_copyFrom.cls 32 RX2 "forwards" "LThirteenthDay$Table;" ∈ wsX2_copyFrom := by decide +kernel
theorem zk_X2_copyFrom_35 : Cond.fieldLink yX2_copyFrom.cls 35 RX2 "tracks" "LThirteenthDay$Table;" ∈ wsX2_copyFrom := by decide +kernel
theorem zi_X2_copyFrom_X2 : ∀ w ∈ u_ws RX2 TX2 5, w ∈ wsX2_copyFrom := by decide +kernel
def zX2_copyFrom (b : Nat) (b1 : Nat) (st : zz_T) : zz_T :=
  zz_v (zz_cp (b + 0) (b1 + 0) st) fun st1 =>
  zz_v (zz_cp (b + 1) (b1 + 1) st1) fun st3 =>
  zz_v (zz_cp (b + 2) (b1 + 2) st3) fun st5 =>
  zz_v (zz_cp (b + 3) (b1 + 3) st5) fun st7 =>
  zz_v (zz_cp (b + 4) (b1 + 4) st7) fun st9 =>
  st9
set_option maxHeartbeats 4000000 in
set_option maxRecDepth 100000 in
theorem zc_X2_copyFrom {l : Launch} {A : Nat → Prop} {D : va_G} {cI : ClassId} {q : Nat → Nat} (o b : Nat) (hz : zz_P o b) (o1 b1 : Nat) (hz1 : zz_P o1 b1) (hbb : b ≠ b1) (st : zz_T) : zz_Mv l A D cI q yX2_copyFrom wsX2_copyFrom zr_X2_copyFrom [.ref (q o), .ref (q o1)] st (zX2_copyFrom b b1 st) := by
  refine zz_of (cc := cX2_copyFrom) (nL := 2) (ret := none) (by decide) rfl (Nat.le_of_ble_eq_true rfl) ?_
  intro p e s m args below meth c ls C hr hP hS hl
  obtain ⟨hx, hb, hml, hown, hts⟩ := id C.1
  have hl : lv_has ls 2 [(0, .ref (q o)), (1, .ref (q o1))] := hl
  obtain ⟨r, hf⟩ : ∃ r, zX2_copyFrom b b1 st = r := ⟨_, rfl⟩
  rw [hf]
  rw [zX2_copyFrom] at hf
  skip
  refine lv_aload_n hx hb dX2_copyFrom_0 rfl (lv_at hl 0 rfl) ?_
  refine zz_getf C zi_X2_copyFrom_X2 hP o (zz_c_pa hz) rfl 0 (nm := "facts") (ds := "LThirteenthDay$Table;") (fin := true) rfl (by decide) zk_X2_copyFrom_20 rfl dX2_copyFrom_1 ?_
  refine lv_aload_n hx hb dX2_copyFrom_4 rfl (lv_at hl 1 rfl) ?_
  refine zz_getf C zi_X2_copyFrom_X2 hP o1 (zz_c_pa hz1) rfl 0 (nm := "facts") (ds := "LThirteenthDay$Table;") (fin := true) rfl (by decide) zk_X2_copyFrom_20 rfl dX2_copyFrom_5 ?_
  obtain ⟨st1, e2, hf⟩ := zz_vo hf
  refine zz_callVv C (As := [.ref (q (9 + (b1 + 0)))]) (rest := []) (zz_Mv_e e2 (zc_X5_copyFrom (b + 0) (b1 + 0) (zz_Plt hz (by decide)) (zz_Plt hz1 (by decide)) (zz_Pn hz hz1 (by decide)) (zz_Pne hz hz1 hbb (by decide)) _)) (cwV 1 hts gX2_copyFrom_X5_copyFrom rfl rfl rfl zd_X5_copyFrom ⟨Nat.le_of_ble_eq_true rfl, Nat.le_of_ble_eq_true rfl⟩) hP hS (9 + (b + 0)) (zz_c_tab (zz_Plt hz (by decide))) rfl rfl hl rfl (Nat.le_of_ble_eq_true rfl) dX2_copyFrom_8 ⟨Nat.zero_le _, Nat.zero_le _⟩ (fun H locs hP hS => ?_)
  refine lv_aload_n hx hb dX2_copyFrom_11 rfl (lv_at hl 0 rfl) ?_
  refine zz_getf C zi_X2_copyFrom_X2 hP o (zz_c_pa hz) rfl 1 (nm := "steps") (ds := "LThirteenthDay$Table;") (fin := true) rfl (by decide) zk_X2_copyFrom_26 rfl dX2_copyFrom_12 ?_
  refine lv_aload_n hx hb dX2_copyFrom_15 rfl (lv_at hl 1 rfl) ?_
  refine zz_getf C zi_X2_copyFrom_X2 hP o1 (zz_c_pa hz1) rfl 1 (nm := "steps") (ds := "LThirteenthDay$Table;") (fin := true) rfl (by decide) zk_X2_copyFrom_26 rfl dX2_copyFrom_16 ?_
  obtain ⟨st3, e4, hf⟩ := zz_vo hf
  refine zz_callVv C (As := [.ref (q (9 + (b1 + 1)))]) (rest := []) (zz_Mv_e e4 (zc_X5_copyFrom (b + 1) (b1 + 1) (zz_Plt hz (by decide)) (zz_Plt hz1 (by decide)) (zz_Pn hz hz1 (by decide)) (zz_Pne hz hz1 hbb (by decide)) _)) (cwV 1 hts gX2_copyFrom_X5_copyFrom rfl rfl rfl zd_X5_copyFrom ⟨Nat.le_of_ble_eq_true rfl, Nat.le_of_ble_eq_true rfl⟩) hP hS (9 + (b + 1)) (zz_c_tab (zz_Plt hz (by decide))) rfl rfl hl rfl (Nat.le_of_ble_eq_true rfl) dX2_copyFrom_19 ⟨Nat.zero_le _, Nat.zero_le _⟩ (fun H locs hP hS => ?_)
  refine lv_aload_n hx hb dX2_copyFrom_22 rfl (lv_at hl 0 rfl) ?_
  refine zz_getf C zi_X2_copyFrom_X2 hP o (zz_c_pa hz) rfl 2 (nm := "offsets") (ds := "LThirteenthDay$Table;") (fin := true) rfl (by decide) zk_X2_copyFrom_29 rfl dX2_copyFrom_23 ?_
  refine lv_aload_n hx hb dX2_copyFrom_26 rfl (lv_at hl 1 rfl) ?_
  refine zz_getf C zi_X2_copyFrom_X2 hP o1 (zz_c_pa hz1) rfl 2 (nm := "offsets") (ds := "LThirteenthDay$Table;") (fin := true) rfl (by decide) zk_X2_copyFrom_29 rfl dX2_copyFrom_27 ?_
  obtain ⟨st5, e6, hf⟩ := zz_vo hf
  refine zz_callVv C (As := [.ref (q (9 + (b1 + 2)))]) (rest := []) (zz_Mv_e e6 (zc_X5_copyFrom (b + 2) (b1 + 2) (zz_Plt hz (by decide)) (zz_Plt hz1 (by decide)) (zz_Pn hz hz1 (by decide)) (zz_Pne hz hz1 hbb (by decide)) _)) (cwV 1 hts gX2_copyFrom_X5_copyFrom rfl rfl rfl zd_X5_copyFrom ⟨Nat.le_of_ble_eq_true rfl, Nat.le_of_ble_eq_true rfl⟩) hP hS (9 + (b + 2)) (zz_c_tab (zz_Plt hz (by decide))) rfl rfl hl rfl (Nat.le_of_ble_eq_true rfl) dX2_copyFrom_30 ⟨Nat.zero_le _, Nat.zero_le _⟩ (fun H locs hP hS => ?_)
  refine lv_aload_n hx hb dX2_copyFrom_33 rfl (lv_at hl 0 rfl) ?_
  refine zz_getf C zi_X2_copyFrom_X2 hP o (zz_c_pa hz) rfl 3 (nm := "forwards") (ds := "LThirteenthDay$Table;") (fin := true) rfl (by decide) zk_X2_copyFrom_32 rfl dX2_copyFrom_34 ?_
  refine lv_aload_n hx hb dX2_copyFrom_37 rfl (lv_at hl 1 rfl) ?_
  refine zz_getf C zi_X2_copyFrom_X2 hP o1 (zz_c_pa hz1) rfl 3 (nm := "forwards") (ds := "LThirteenthDay$Table;") (fin := true) rfl (by decide) zk_X2_copyFrom_32 rfl dX2_copyFrom_38 ?_
  obtain ⟨st7, e8, hf⟩ := zz_vo hf
  refine zz_callVv C (As := [.ref (q (9 + (b1 + 3)))]) (rest := []) (zz_Mv_e e8 (zc_X5_copyFrom (b + 3) (b1 + 3) (zz_Plt hz (by decide)) (zz_Plt hz1 (by decide)) (zz_Pn hz hz1 (by decide)) (zz_Pne hz hz1 hbb (by decide)) _)) (cwV 1 hts gX2_copyFrom_X5_copyFrom rfl rfl rfl zd_X5_copyFrom ⟨Nat.le_of_ble_eq_true rfl, Nat.le_of_ble_eq_true rfl⟩) hP hS (9 + (b + 3)) (zz_c_tab (zz_Plt hz (by decide))) rfl rfl hl rfl (Nat.le_of_ble_eq_true rfl) dX2_copyFrom_41 ⟨Nat.zero_le _, Nat.zero_le _⟩ (fun H locs hP hS => ?_)
  refine lv_aload_n hx hb dX2_copyFrom_44 rfl (lv_at hl 0 rfl) ?_
  refine zz_getf C zi_X2_copyFrom_X2 hP o (zz_c_pa hz) rfl 4 (nm := "tracks") (ds := "LThirteenthDay$Table;") (fin := true) rfl (by decide) zk_X2_copyFrom_35 rfl dX2_copyFrom_45 ?_
  refine lv_aload_n hx hb dX2_copyFrom_48 rfl (lv_at hl 1 rfl) ?_
  refine zz_getf C zi_X2_copyFrom_X2 hP o1 (zz_c_pa hz1) rfl 4 (nm := "tracks") (ds := "LThirteenthDay$Table;") (fin := true) rfl (by decide) zk_X2_copyFrom_35 rfl dX2_copyFrom_49 ?_
  obtain ⟨st9, e10, hf⟩ := zz_vo hf
  refine zz_callVv C (As := [.ref (q (9 + (b1 + 4)))]) (rest := []) (zz_Mv_e e10 (zc_X5_copyFrom (b + 4) (b1 + 4) (zz_Plt hz (by decide)) (zz_Plt hz1 (by decide)) (zz_Pn hz hz1 (by decide)) (zz_Pne hz hz1 hbb (by decide)) _)) (cwV 1 hts gX2_copyFrom_X5_copyFrom rfl rfl rfl zd_X5_copyFrom ⟨Nat.le_of_ble_eq_true rfl, Nat.le_of_ble_eq_true rfl⟩) hP hS (9 + (b + 4)) (zz_c_tab (zz_Plt hz (by decide))) rfl rfl hl rfl (Nat.le_of_ble_eq_true rfl) dX2_copyFrom_52 ⟨Nat.zero_le _, Nat.zero_le _⟩ (fun H locs hP hS => ?_)
  rw [← hf]
  exact zz_retv C hr hP hS dX2_copyFrom_55
/-! X7_get TR -/
theorem zd_X7_get : yX7_get.cls = RX7 ∧ yX7_get.cls ≠ "java/lang/invoke/MethodHandle" ∧ yX7_get.cls ≠ "java/lang/invoke/VarHandle" ∧ (parseMethodDescriptor yX7_get.desc).map (fun d => d.parameters.length) = some 2 := by decide +kernel
abbrev zr_X7_get : Room := { frames := 1, cells := 0, slots := 0, locals := 24 }
theorem zk_X7_get_16 : Cond.fieldLink yX7_get.cls 16 RX7 "units" "LThirteenthDay$Table;" ∈ wsX7_get := by decide +kernel
theorem zi_X7_get_X7 : ∀ w ∈ u_ws RX7 TX7 3, w ∈ wsX7_get := by decide +kernel
def zX7_get (v1 : Int32) (v2 : Int32) (st : zz_T) : Int32 :=
  (zz_g 4 v1 v2 st)
set_option maxHeartbeats 4000000 in
set_option maxRecDepth 100000 in
theorem zc_X7_get {l : Launch} {A : Nat → Prop} {D : va_G} {cI : ClassId} {q : Nat → Nat} (v1 : Int32) (v2 : Int32) (st : zz_T) : zz_Mi l A D cI q yX7_get wsX7_get zr_X7_get [.ref (q 2), .int v1, .int v2] st (zX7_get v1 v2 st) st := by
  refine zz_of (cc := cX7_get) (nL := 3) (ret := some .int) (by decide) rfl (Nat.le_of_ble_eq_true rfl) ?_
  intro p e s m args below meth c ls C hr hP hS hl
  obtain ⟨hx, hb, hml, hown, hts⟩ := id C.1
  have hl : lv_has ls 3 [(0, .ref (q 2)), (1, .int v1), (2, .int v2)] := hl
  obtain ⟨r, hf⟩ : ∃ r, zX7_get v1 v2 st = r := ⟨_, rfl⟩
  rw [hf]
  rw [zX7_get] at hf
  skip
  refine lv_aload_n hx hb dX7_get_0 rfl (lv_at hl 0 rfl) ?_
  refine zz_getf C zi_X7_get_X7 hP 2 rfl rfl 0 (nm := "units") (ds := "LThirteenthDay$Table;") (fin := true) rfl (by decide) zk_X7_get_16 rfl dX7_get_1 ?_
  refine lv_iload_n hx hb dX7_get_4 rfl (lv_at hl 1 rfl) ?_
  refine lv_iload_n hx hb dX7_get_5 rfl (lv_at hl 2 rfl) ?_
  refine zz_callVi C (As := [.int v1, .int v2]) (rest := []) (zc_X5_get 4 (by decide) _ _ _) (cwV 2 hts gX7_get_X5_get rfl rfl rfl zd_X5_get ⟨Nat.le_of_ble_eq_true rfl, Nat.le_of_ble_eq_true rfl⟩) hP hS (9 + 4) (zz_c_tab (by decide)) rfl rfl hl rfl (Nat.le_of_ble_eq_true rfl) dX7_get_6 ⟨Nat.zero_le _, Nat.zero_le _⟩ (fun H locs hP hS => ?_)
  rw [← hf]
  exact zz_reti C hr hP hS dX7_get_9
/-! X7_has TR -/
theorem zd_X7_has : yX7_has.cls = RX7 ∧ yX7_has.cls ≠ "java/lang/invoke/MethodHandle" ∧ yX7_has.cls ≠ "java/lang/invoke/VarHandle" ∧ (parseMethodDescriptor yX7_has.desc).map (fun d => d.parameters.length) = some 1 := by decide +kernel
abbrev zr_X7_has : Room := { frames := 0, cells := 0, slots := 0, locals := 0 }
theorem zk_X7_has_23 : Cond.fieldLink yX7_has.cls 23 RX7 "unitCount" "I" ∈ wsX7_has := by decide +kernel
theorem zi_X7_has_X7 : ∀ w ∈ u_ws RX7 TX7 3, w ∈ wsX7_has := by decide +kernel
def zX7_has (v1 : Int32) (st : zz_T) : Bool :=
  if v1 < 0 then
    false
  else
    if (st.2 4) ≤ v1 then
      false
    else
      true
set_option maxHeartbeats 4000000 in
set_option maxRecDepth 100000 in
theorem zc_X7_has {l : Launch} {A : Nat → Prop} {D : va_G} {cI : ClassId} {q : Nat → Nat} (v1 : Int32) (st : zz_T) : zz_Mi l A D cI q yX7_has wsX7_has zr_X7_has [.ref (q 2), .int v1] st (zz_b (zX7_has v1 st)) st := by
  refine zz_of (cc := cX7_has) (nL := 2) (ret := some .boolean) (by decide) rfl (Nat.le_of_ble_eq_true rfl) ?_
  intro p e s m args below meth c ls C hr hP hS hl
  obtain ⟨hx, hb, hml, hown, hts⟩ := id C.1
  have hl : lv_has ls 2 [(0, .ref (q 2)), (1, .int v1)] := hl
  obtain ⟨r, hf⟩ : ∃ r, zX7_has v1 st = r := ⟨_, rfl⟩
  rw [hf]
  rw [zX7_has] at hf
  skip
  refine lv_iload_n hx hb dX7_has_0 rfl (lv_at hl 1 rfl) ?_
  refine lv_if_lt (tgt := 16) hx hb dX7_has_1 (by decide) (fun h => ?_) (fun h => ?_)
  · rw [if_pos h] at hf
    refine lv_iconst (v := 0) hx hb dX7_has_16 (by decide) ?_
    rw [← hf]
    exact zz_retz (v := false) C hr hP hS dX7_has_17
  · rw [if_neg h] at hf
    refine lv_iload_n hx hb dX7_has_4 rfl (lv_at hl 1 rfl) ?_
    refine lv_aload_n hx hb dX7_has_5 rfl (lv_at hl 0 rfl) ?_
    refine zz_getf C zi_X7_has_X7 hP 2 rfl rfl 2 (nm := "unitCount") (ds := "I") (fin := false) rfl (by decide) zk_X7_has_23 rfl dX7_has_6 ?_
    refine lv_icmp_ge (tgt := 16) hx hb dX7_has_9 (by decide) (fun h => ?_) (fun h => ?_)
    · rw [if_pos h] at hf
      refine lv_iconst (v := 0) hx hb dX7_has_16 (by decide) ?_
      rw [← hf]
      exact zz_retz (v := false) C hr hP hS dX7_has_17
    · rw [if_neg h] at hf
      refine lv_iconst (v := 1) hx hb dX7_has_12 (by decide) ?_
      refine lv_goto (tgt := 17) hx hb dX7_has_13 (by decide) ?_
      rw [← hf]
      exact zz_retz (v := true) C hr hP hS dX7_has_17
/-! X2_slotOf TR -/
theorem zd_X2_slotOf : yX2_slotOf.cls = RX2 ∧ yX2_slotOf.cls ≠ "java/lang/invoke/MethodHandle" ∧ yX2_slotOf.cls ≠ "java/lang/invoke/VarHandle" ∧ (parseMethodDescriptor yX2_slotOf.desc).map (fun d => d.parameters.length) = some 2 := by decide +kernel
abbrev zr_X2_slotOf : Room := { frames := 0, cells := 0, slots := 0, locals := 0 }
def zX2_slotOf (v0 : Int32) (v1 : Int32) (st : zz_T) : Int32 :=
  ((v0 * 8) + v1)
set_option maxHeartbeats 4000000 in
set_option maxRecDepth 100000 in
theorem zc_X2_slotOf {l : Launch} {A : Nat → Prop} {D : va_G} {cI : ClassId} {q : Nat → Nat} (v0 : Int32) (v1 : Int32) (st : zz_T) : zz_Mi l A D cI q yX2_slotOf wsX2_slotOf zr_X2_slotOf [.int v0, .int v1] st (zX2_slotOf v0 v1 st) st := by
  refine zz_of (cc := cX2_slotOf) (nL := 2) (ret := some .int) (by decide) rfl (Nat.le_of_ble_eq_true rfl) ?_
  intro p e s m args below meth c ls C hr hP hS hl
  obtain ⟨hx, hb, hml, hown, hts⟩ := id C.1
  have hl : lv_has ls 2 [(0, .int v0), (1, .int v1)] := hl
  obtain ⟨r, hf⟩ : ∃ r, zX2_slotOf v0 v1 st = r := ⟨_, rfl⟩
  rw [hf]
  rw [zX2_slotOf] at hf
  skip
  refine lv_iload_n hx hb dX2_slotOf_0 rfl (lv_at hl 0 rfl) ?_
  refine lv_bipush (v := 8) hx hb dX2_slotOf_1 (by decide) ?_
  refine lv_imul hx hb dX2_slotOf_3 ?_
  refine lv_iload_n hx hb dX2_slotOf_4 rfl (lv_at hl 1 rfl) ?_
  refine lv_iadd hx hb dX2_slotOf_5 ?_
  rw [← hf]
  exact zz_reti C hr hP hS dX2_slotOf_6
/-! X2_isKept TR -/
theorem zd_X2_isKept : yX2_isKept.cls = RX2 ∧ yX2_isKept.cls ≠ "java/lang/invoke/MethodHandle" ∧ yX2_isKept.cls ≠ "java/lang/invoke/VarHandle" ∧ (parseMethodDescriptor yX2_isKept.desc).map (fun d => d.parameters.length) = some 1 := by decide +kernel
abbrev zr_X2_isKept : Room := { frames := 1, cells := 0, slots := 0, locals := 24 }
theorem zk_X2_isKept_20 : Cond.fieldLink yX2_isKept.cls 20 RX2 "facts" "LThirteenthDay$Table;" ∈ wsX2_isKept := by decide +kernel
theorem zi_X2_isKept_X2 : ∀ w ∈ u_ws RX2 TX2 5, w ∈ wsX2_isKept := by decide +kernel
def zX2_isKept (b : Nat) (v1 : Int32) (st : zz_T) : Bool :=
  if (zz_g (b + 0) v1 0 st) = (-1) then
    false
  else
    true
set_option maxHeartbeats 4000000 in
set_option maxRecDepth 100000 in
theorem zc_X2_isKept {l : Launch} {A : Nat → Prop} {D : va_G} {cI : ClassId} {q : Nat → Nat} (o b : Nat) (hz : zz_P o b) (v1 : Int32) (st : zz_T) : zz_Mi l A D cI q yX2_isKept wsX2_isKept zr_X2_isKept [.ref (q o), .int v1] st (zz_b (zX2_isKept b v1 st)) st := by
  refine zz_of (cc := cX2_isKept) (nL := 2) (ret := some .boolean) (by decide) rfl (Nat.le_of_ble_eq_true rfl) ?_
  intro p e s m args below meth c ls C hr hP hS hl
  obtain ⟨hx, hb, hml, hown, hts⟩ := id C.1
  have hl : lv_has ls 2 [(0, .ref (q o)), (1, .int v1)] := hl
  obtain ⟨r, hf⟩ : ∃ r, zX2_isKept b v1 st = r := ⟨_, rfl⟩
  rw [hf]
  rw [zX2_isKept] at hf
  skip
  refine lv_aload_n hx hb dX2_isKept_0 rfl (lv_at hl 0 rfl) ?_
  refine zz_getf C zi_X2_isKept_X2 hP o (zz_c_pa hz) rfl 0 (nm := "facts") (ds := "LThirteenthDay$Table;") (fin := true) rfl (by decide) zk_X2_isKept_20 rfl dX2_isKept_1 ?_
  refine lv_iload_n hx hb dX2_isKept_4 rfl (lv_at hl 1 rfl) ?_
  refine lv_iconst (v := 0) hx hb dX2_isKept_5 (by decide) ?_
  refine zz_callVi C (As := [.int v1, .int 0]) (rest := []) (zc_X5_get (b + 0) (zz_Plt hz (by decide)) _ _ _) (cwV 2 hts gX2_isKept_X5_get rfl rfl rfl zd_X5_get ⟨Nat.le_of_ble_eq_true rfl, Nat.le_of_ble_eq_true rfl⟩) hP hS (9 + (b + 0)) (zz_c_tab (zz_Plt hz (by decide))) rfl rfl hl rfl (Nat.le_of_ble_eq_true rfl) dX2_isKept_6 ⟨Nat.zero_le _, Nat.zero_le _⟩ (fun H locs hP hS => ?_)
  refine lv_iconst (v := (-1)) hx hb dX2_isKept_9 (by decide) ?_
  refine lv_icmp_eq (tgt := 17) hx hb dX2_isKept_10 (by decide) (fun h => ?_) (fun h => ?_)
  · rw [if_pos h] at hf
    refine lv_iconst (v := 0) hx hb dX2_isKept_17 (by decide) ?_
    rw [← hf]
    exact zz_retz (v := false) C hr hP hS dX2_isKept_18
  · rw [if_neg h] at hf
    refine lv_iconst (v := 1) hx hb dX2_isKept_13 (by decide) ?_
    refine lv_goto (tgt := 18) hx hb dX2_isKept_14 (by decide) ?_
    rw [← hf]
    exact zz_retz (v := true) C hr hP hS dX2_isKept_18
/-! X2_takeOut TW -/
theorem zd_X2_takeOut : yX2_takeOut.cls = RX2 ∧ yX2_takeOut.cls ≠ "java/lang/invoke/MethodHandle" ∧ yX2_takeOut.cls ≠ "java/lang/invoke/VarHandle" ∧ (parseMethodDescriptor yX2_takeOut.desc).map (fun d => d.parameters.length) = some 1 := by decide +kernel
abbrev zr_X2_takeOut : Room := { frames := 2, cells := 0, slots := 0, locals := 45 }
theorem zk_X2_takeOut_20 : Cond.fieldLink yX2_takeOut.cls 20 RX2 "facts" "LThirteenthDay$Table;" ∈ wsX2_takeOut := by decide +kernel
theorem zi_X2_takeOut_X2 : ∀ w ∈ u_ws RX2 TX2 5, w ∈ wsX2_takeOut := by decide +kernel
def zX2_takeOut (b : Nat) (v1 : Int32) (st : zz_T) : (Bool × zz_T) :=
  zz_v (zX2_isKept b v1 st) fun w1 =>
  zz_v (zz_set (b + 0) v1 0 (-1) st) fun st2 =>
  (w1, st2)
set_option maxHeartbeats 4000000 in
set_option maxRecDepth 100000 in
theorem zc_X2_takeOut {l : Launch} {A : Nat → Prop} {D : va_G} {cI : ClassId} {q : Nat → Nat} (o b : Nat) (hz : zz_P o b) (v1 : Int32) (st : zz_T) : zz_Mi l A D cI q yX2_takeOut wsX2_takeOut zr_X2_takeOut [.ref (q o), .int v1] st (zz_b (zX2_takeOut b v1 st).1) (zX2_takeOut b v1 st).2 := by
  refine zz_of (cc := cX2_takeOut) (nL := 3) (ret := some .boolean) (by decide) rfl (Nat.le_of_ble_eq_true rfl) ?_
  intro p e s m args below meth c ls C hr hP hS hl
  obtain ⟨hx, hb, hml, hown, hts⟩ := id C.1
  have hl : lv_has ls 3 [(0, .ref (q o)), (1, .int v1)] := hl
  obtain ⟨r, hf⟩ : ∃ r, zX2_takeOut b v1 st = r := ⟨_, rfl⟩
  rw [hf]
  rw [zX2_takeOut] at hf
  skip
  refine lv_aload_n hx hb dX2_takeOut_0 rfl (lv_at hl 0 rfl) ?_
  refine lv_iload_n hx hb dX2_takeOut_1 rfl (lv_at hl 1 rfl) ?_
  refine zz_callVi C (As := [.int v1]) (rest := []) (zc_X2_isKept o b hz _ _) (cwV 1 hts gX2_takeOut_X2_isKept rfl rfl rfl zd_X2_isKept ⟨Nat.le_of_ble_eq_true rfl, Nat.le_of_ble_eq_true rfl⟩) hP hS o (zz_c_pa hz) rfl rfl hl rfl (Nat.le_of_ble_eq_true rfl) dX2_takeOut_2 ⟨Nat.zero_le _, Nat.zero_le _⟩ (fun H locs hP hS => ?_)
  refine zz_topz (fun w1 e1 => ?_)
  replace hf := zz_vi hf e1
  refine lv_istore_n (lv' := [(2, .int (zz_b w1)), (0, .ref (q o)), (1, .int v1)]) hx hb dX2_takeOut_5 rfl hl (by decide) rfl (fun ls hl => ?_)
  refine lv_aload_n hx hb dX2_takeOut_6 rfl (lv_at hl 1 rfl) ?_
  refine zz_getf C zi_X2_takeOut_X2 hP o (zz_c_pa hz) rfl 0 (nm := "facts") (ds := "LThirteenthDay$Table;") (fin := true) rfl (by decide) zk_X2_takeOut_20 rfl dX2_takeOut_7 ?_
  refine lv_iload_n hx hb dX2_takeOut_10 rfl (lv_at hl 2 rfl) ?_
  refine lv_iconst (v := 0) hx hb dX2_takeOut_11 (by decide) ?_
  refine lv_iconst (v := (-1)) hx hb dX2_takeOut_12 (by decide) ?_
  obtain ⟨st2, e3, hf⟩ := zz_vo hf
  refine zz_callVv C (As := [.int v1, .int 0, .int (-1)]) (rest := []) (zz_Mv_e e3 (zc_X5_set (b + 0) (zz_Plt hz (by decide)) _ _ _ _)) (cwV 3 hts gX2_takeOut_X5_set rfl rfl rfl zd_X5_set ⟨Nat.le_of_ble_eq_true rfl, Nat.le_of_ble_eq_true rfl⟩) hP hS (9 + (b + 0)) (zz_c_tab (zz_Plt hz (by decide))) rfl rfl hl rfl (Nat.le_of_ble_eq_true rfl) dX2_takeOut_13 ⟨Nat.zero_le _, Nat.zero_le _⟩ (fun H locs hP hS => ?_)
  refine lv_iload_n hx hb dX2_takeOut_16 rfl (lv_at hl 0 rfl) ?_
  rw [← hf]
  exact zz_retz (v := w1) C hr hP hS dX2_takeOut_17
/-! X8_dropWaiting PW -/
theorem zd_X8_dropWaiting : yX8_dropWaiting.cls = RX8 ∧ yX8_dropWaiting.cls ≠ "java/lang/invoke/MethodHandle" ∧ yX8_dropWaiting.cls ≠ "java/lang/invoke/VarHandle" ∧ (parseMethodDescriptor yX8_dropWaiting.desc).map (fun d => d.parameters.length) = some 2 := by decide +kernel
abbrev zr_X8_dropWaiting : Room := { frames := 3, cells := 0, slots := 0, locals := 67 }
theorem zk_X8_dropWaiting_19 : Cond.fieldLink yX8_dropWaiting.cls 19 RX8 "units" "LThirteenthDay$Units;" ∈ wsX8_dropWaiting := by decide +kernel
theorem zi_X8_dropWaiting_X8 : ∀ w ∈ u_ws RX8 TX8 11, w ∈ wsX8_dropWaiting := by decide +kernel
def zX8_dropWaiting_14 (b1 : Nat) : Nat → Int32 → Int32 → Int32 → zz_T → Option (Int32 × zz_T)
  | 0, _, _, _, _ => none
  | n + 1, v2, v3, v4, st =>
    if (zX7_get v2 1 st) ≤ v4 then
      some (v3, st)
    else
      zz_v (zX2_takeOut b1 (zX2_slotOf v2 v4 st) st) fun p2 =>
      if p2.1 = true then
        zz_v (v3 + 1) fun w5 =>
        zX8_dropWaiting_14 b1 n v2 w5 (v4 + 1) p2.2
      else
        zz_v (v3 + 0) fun w4 =>
        zX8_dropWaiting_14 b1 n v2 w4 (v4 + 1) p2.2
set_option maxHeartbeats 4000000 in
set_option maxRecDepth 100000 in
theorem zt_X8_dropWaiting_14 {l : Launch} {A : Nat → Prop} {D : va_G} {cI : ClassId} {q : Nat → Nat} {p : Program} {e : Env} {s : State} {m : MethodId} {args : Array Value} {below : List Frame} {meth : Method} {c : Code} (C : zz_C A D cI q p s m args meth c cX8_dropWaiting 5 wsX8_dropWaiting yX8_dropWaiting.cls) (hr : meth.sig.returnType = some .int) (o1 b1 : Nat) (hz1 : zz_P o1 b1) : ∀ (n : Nat) (v2 : Int32) (v3 : Int32) (v4 : Int32) (st : zz_T) (H : Heap) (locs : List Loc) (ls : Array Slot) (r : (Int32 × zz_T)), zX8_dropWaiting_14 b1 n v2 v3 v4 st = some r → va_P D vwCl (zz_c q cI st) H → va_S A s.heap H locs → lv_has ls 5 [(0, .ref (q 0)), (1, .ref (q o1)), (2, .int v2), (3, .int v3), (4, .int v4)] → W p l e zr_X8_dropWaiting s m args below meth c H locs 0 0 (zz_Qi A D cI q r.1 r.2 below args s) (F0 m 14 ls []) := by
  obtain ⟨hx, hb, hml, hown, hts⟩ := id C.1
  intro n
  induction n with
  | zero => intro v2 v3 v4 st H locs ls r hf; cases hf
  | succ n ih =>
    intro v2 v3 v4 st H locs ls r hf hP hS hl
    rw [zX8_dropWaiting_14] at hf
    refine lv_iload hx hb dX8_dropWaiting_14 (lv_at hl 4 rfl) ?_
    refine lv_aload_n hx hb dX8_dropWaiting_16 rfl (lv_at hl 0 rfl) ?_
    refine zz_getf C zi_X8_dropWaiting_X8 hP 0 rfl rfl 1 (nm := "units") (ds := "LThirteenthDay$Units;") (fin := true) rfl (by decide) zk_X8_dropWaiting_19 rfl dX8_dropWaiting_17 ?_
    refine lv_iload_n hx hb dX8_dropWaiting_20 rfl (lv_at hl 2 rfl) ?_
    refine lv_iconst (v := 1) hx hb dX8_dropWaiting_21 (by decide) ?_
    refine zz_callVi C (As := [.int v2, .int 1]) (rest := [.int v4]) (zc_X7_get _ _ _) (cwV 2 hts gX8_dropWaiting_X7_get rfl rfl rfl zd_X7_get ⟨Nat.le_of_ble_eq_true rfl, Nat.le_of_ble_eq_true rfl⟩) hP hS 2 rfl rfl rfl hl rfl (Nat.le_of_ble_eq_true rfl) dX8_dropWaiting_22 ⟨Nat.zero_le _, Nat.zero_le _⟩ (fun H locs hP hS => ?_)
    refine lv_icmp_ge (tgt := 55) hx hb dX8_dropWaiting_25 (by decide) (fun h => ?_) (fun h => ?_)
    · rw [if_pos h] at hf
      refine lv_iload_n hx hb dX8_dropWaiting_55 rfl (lv_at hl 3 rfl) ?_
      rw [← (Option.some.inj hf)]
      exact zz_reti C hr hP hS dX8_dropWaiting_56
    · rw [if_neg h] at hf
      refine lv_iload_n hx hb dX8_dropWaiting_28 rfl (lv_at hl 3 rfl) ?_
      refine lv_aload_n hx hb dX8_dropWaiting_29 rfl (lv_at hl 1 rfl) ?_
      refine lv_iload_n hx hb dX8_dropWaiting_30 rfl (lv_at hl 2 rfl) ?_
      refine lv_iload hx hb dX8_dropWaiting_31 (lv_at hl 4 rfl) ?_
      refine zz_callSi C (As := [.int v2, .int v4]) (rest := [.ref (q o1), .int v3]) (zc_X2_slotOf _ _ _) (va_cwS 2 hts gX8_dropWaiting_X2_slotOf rfl rfl rfl zd_X2_slotOf.2 ⟨Nat.le_of_ble_eq_true rfl, Nat.le_of_ble_eq_true rfl⟩) hP hS rfl hl rfl (Nat.le_of_ble_eq_true rfl) dX8_dropWaiting_33 ⟨Nat.zero_le _, Nat.zero_le _⟩ (fun H locs hP hS => ?_)
      obtain ⟨p2, e3, hf⟩ := zz_vo hf
      refine zz_callVi C (As := [.int (zX2_slotOf v2 v4 st)]) (rest := [.int v3]) (zz_Mz_e e3 (zc_X2_takeOut o1 b1 hz1 _ _)) (cwV 1 hts gX8_dropWaiting_X2_takeOut rfl rfl rfl zd_X2_takeOut ⟨Nat.le_of_ble_eq_true rfl, Nat.le_of_ble_eq_true rfl⟩) hP hS o1 (zz_c_pa hz1) rfl rfl hl rfl (Nat.le_of_ble_eq_true rfl) dX8_dropWaiting_36 ⟨Nat.zero_le _, Nat.zero_le _⟩ (fun H locs hP hS => ?_)
      refine lv_if_eq (tgt := 46) hx hb dX8_dropWaiting_39 (by decide) (fun h => ?_) (fun h => ?_)
      · rw [zz_if0 (zz_b0 h)] at hf
        refine lv_iconst (v := 0) hx hb dX8_dropWaiting_46 (by decide) ?_
        refine lv_iadd hx hb dX8_dropWaiting_47 ?_
        refine lv_topi (fun w4 e4 => ?_)
        replace hf := zz_vi hf e4
        refine lv_istore_n (lv' := [(3, .int w4), (0, .ref (q 0)), (1, .ref (q o1)), (2, .int v2), (4, .int v4)]) hx hb dX8_dropWaiting_48 rfl hl (by decide) rfl (fun ls hl => ?_)
        refine lv_iinc (v := (v4 + 1)) (lv' := [(4, .int (v4 + 1)), (3, .int w4), (0, .ref (q 0)), (1, .ref (q o1)), (2, .int v2)]) hx hb dX8_dropWaiting_49 hl (k := 4) rfl (congrArg (fun z => v4 + z) (by decide)) (by decide) rfl (fun ls hl => ?_)
        refine lv_goto (tgt := 14) hx hb dX8_dropWaiting_52 (by decide) ?_
        exact ih _ _ _ _ _ _ _ _ hf hP hS (lv_sub hl [2, 3, 4, 1, 0] rfl)
      · rw [zz_if1 (zz_b1 h)] at hf
        refine lv_iconst (v := 1) hx hb dX8_dropWaiting_42 (by decide) ?_
        refine lv_goto (tgt := 47) hx hb dX8_dropWaiting_43 (by decide) ?_
        refine lv_iadd hx hb dX8_dropWaiting_47 ?_
        refine lv_topi (fun w5 e5 => ?_)
        replace hf := zz_vi hf e5
        refine lv_istore_n (lv' := [(3, .int w5), (0, .ref (q 0)), (1, .ref (q o1)), (2, .int v2), (4, .int v4)]) hx hb dX8_dropWaiting_48 rfl hl (by decide) rfl (fun ls hl => ?_)
        refine lv_iinc (v := (v4 + 1)) (lv' := [(4, .int (v4 + 1)), (3, .int w5), (0, .ref (q 0)), (1, .ref (q o1)), (2, .int v2)]) hx hb dX8_dropWaiting_49 hl (k := 4) rfl (congrArg (fun z => v4 + z) (by decide)) (by decide) rfl (fun ls hl => ?_)
        refine lv_goto (tgt := 14) hx hb dX8_dropWaiting_52 (by decide) ?_
        exact ih _ _ _ _ _ _ _ _ hf hP hS (lv_sub hl [2, 3, 4, 1, 0] rfl)
def zX8_dropWaiting (b1 : Nat) (v2 : Int32) (st : zz_T) : Option (Int32 × zz_T) :=
  zz_v (zX7_get v2 7 st) fun w1 =>
  zX8_dropWaiting_14 b1 zz_N v2 0 w1 st
set_option maxHeartbeats 4000000 in
set_option maxRecDepth 100000 in
theorem zc_X8_dropWaiting {l : Launch} {A : Nat → Prop} {D : va_G} {cI : ClassId} {q : Nat → Nat} (o1 b1 : Nat) (hz1 : zz_P o1 b1) (v2 : Int32) (st : zz_T) (r : (Int32 × zz_T)) (hf : zX8_dropWaiting b1 v2 st = some r) : zz_Mi l A D cI q yX8_dropWaiting wsX8_dropWaiting zr_X8_dropWaiting [.ref (q 0), .ref (q o1), .int v2] st r.1 r.2 := by
  refine zz_of (cc := cX8_dropWaiting) (nL := 5) (ret := some .int) (by decide) rfl (Nat.le_of_ble_eq_true rfl) ?_
  intro p e s m args below meth c ls C hr hP hS hl
  obtain ⟨hx, hb, hml, hown, hts⟩ := id C.1
  have hl : lv_has ls 5 [(0, .ref (q 0)), (1, .ref (q o1)), (2, .int v2)] := hl
  rw [zX8_dropWaiting] at hf
  skip
  refine lv_iconst (v := 0) hx hb dX8_dropWaiting_0 (by decide) ?_
  refine lv_istore_n (lv' := [(3, .int 0), (0, .ref (q 0)), (1, .ref (q o1)), (2, .int v2)]) hx hb dX8_dropWaiting_1 rfl hl (by decide) rfl (fun ls hl => ?_)
  refine lv_aload_n hx hb dX8_dropWaiting_2 rfl (lv_at hl 1 rfl) ?_
  refine zz_getf C zi_X8_dropWaiting_X8 hP 0 rfl rfl 1 (nm := "units") (ds := "LThirteenthDay$Units;") (fin := true) rfl (by decide) zk_X8_dropWaiting_19 rfl dX8_dropWaiting_3 ?_
  refine lv_iload_n hx hb dX8_dropWaiting_6 rfl (lv_at hl 3 rfl) ?_
  refine lv_bipush (v := 7) hx hb dX8_dropWaiting_7 (by decide) ?_
  refine zz_callVi C (As := [.int v2, .int 7]) (rest := []) (zc_X7_get _ _ _) (cwV 2 hts gX8_dropWaiting_X7_get rfl rfl rfl zd_X7_get ⟨Nat.le_of_ble_eq_true rfl, Nat.le_of_ble_eq_true rfl⟩) hP hS 2 rfl rfl rfl hl rfl (Nat.le_of_ble_eq_true rfl) dX8_dropWaiting_9 ⟨Nat.zero_le _, Nat.zero_le _⟩ (fun H locs hP hS => ?_)
  refine lv_topi (fun w1 e1 => ?_)
  replace hf := zz_vi hf e1
  refine lv_istore (lv' := [(4, .int w1), (3, .int 0), (0, .ref (q 0)), (1, .ref (q o1)), (2, .int v2)]) hx hb dX8_dropWaiting_12 hl (by decide) rfl (fun ls hl => ?_)
  exact zt_X8_dropWaiting_14 C hr o1 b1 hz1 zz_N _ _ _ _ _ _ _ _ hf hP hS (lv_sub hl [2, 3, 4, 1, 0] rfl)
/-! X8_isNoTickToPlan TR -/
theorem zd_X8_isNoTickToPlan : yX8_isNoTickToPlan.cls = RX8 ∧ yX8_isNoTickToPlan.cls ≠ "java/lang/invoke/MethodHandle" ∧ yX8_isNoTickToPlan.cls ≠ "java/lang/invoke/VarHandle" ∧ (parseMethodDescriptor yX8_isNoTickToPlan.desc).map (fun d => d.parameters.length) = some 1 := by decide +kernel
abbrev zr_X8_isNoTickToPlan : Room := { frames := 0, cells := 0, slots := 0, locals := 0 }
theorem zk_X8_isNoTickToPlan_70 : Cond.fieldLink yX8_isNoTickToPlan.cls 70 RX8 "tick" "I" ∈ wsX8_isNoTickToPlan := by decide +kernel
theorem zi_X8_isNoTickToPlan_X8 : ∀ w ∈ u_ws RX8 TX8 11, w ∈ wsX8_isNoTickToPlan := by decide +kernel
def zX8_isNoTickToPlan (v1 : Int32) (st : zz_T) : Bool :=
  if v1 < (st.2 0) then
    true
  else
    if v1 ≤ 2880 then
      false
    else
      true
set_option maxHeartbeats 4000000 in
set_option maxRecDepth 100000 in
theorem zc_X8_isNoTickToPlan {l : Launch} {A : Nat → Prop} {D : va_G} {cI : ClassId} {q : Nat → Nat} (v1 : Int32) (st : zz_T) : zz_Mi l A D cI q yX8_isNoTickToPlan wsX8_isNoTickToPlan zr_X8_isNoTickToPlan [.ref (q 0), .int v1] st (zz_b (zX8_isNoTickToPlan v1 st)) st := by
  refine zz_of (cc := cX8_isNoTickToPlan) (nL := 2) (ret := some .boolean) (by decide) rfl (Nat.le_of_ble_eq_true rfl) ?_
  intro p e s m args below meth c ls C hr hP hS hl
  obtain ⟨hx, hb, hml, hown, hts⟩ := id C.1
  have hl : lv_has ls 2 [(0, .ref (q 0)), (1, .int v1)] := hl
  obtain ⟨r, hf⟩ : ∃ r, zX8_isNoTickToPlan v1 st = r := ⟨_, rfl⟩
  rw [hf]
  rw [zX8_isNoTickToPlan] at hf
  skip
  refine lv_iload_n hx hb dX8_isNoTickToPlan_0 rfl (lv_at hl 1 rfl) ?_
  refine lv_aload_n hx hb dX8_isNoTickToPlan_1 rfl (lv_at hl 0 rfl) ?_
  refine zz_getf C zi_X8_isNoTickToPlan_X8 hP 0 rfl rfl 9 (nm := "tick") (ds := "I") (fin := false) rfl (by decide) zk_X8_isNoTickToPlan_70 rfl dX8_isNoTickToPlan_2 ?_
  refine lv_icmp_lt (tgt := 15) hx hb dX8_isNoTickToPlan_5 (by decide) (fun h => ?_) (fun h => ?_)
  · rw [if_pos h] at hf
    refine lv_iconst (v := 1) hx hb dX8_isNoTickToPlan_15 (by decide) ?_
    refine lv_goto (tgt := 20) hx hb dX8_isNoTickToPlan_16 (by decide) ?_
    rw [← hf]
    exact zz_retz (v := true) C hr hP hS dX8_isNoTickToPlan_20
  · rw [if_neg h] at hf
    refine lv_iload_n hx hb dX8_isNoTickToPlan_8 rfl (lv_at hl 1 rfl) ?_
    refine lv_sipush (v := 2880) hx hb dX8_isNoTickToPlan_9 (by decide) ?_
    refine lv_icmp_le (tgt := 19) hx hb dX8_isNoTickToPlan_12 (by decide) (fun h => ?_) (fun h => ?_)
    · rw [if_pos h] at hf
      refine lv_iconst (v := 0) hx hb dX8_isNoTickToPlan_19 (by decide) ?_
      rw [← hf]
      exact zz_retz (v := false) C hr hP hS dX8_isNoTickToPlan_20
    · rw [if_neg h] at hf
      refine lv_iconst (v := 1) hx hb dX8_isNoTickToPlan_15 (by decide) ?_
      refine lv_goto (tgt := 20) hx hb dX8_isNoTickToPlan_16 (by decide) ?_
      rw [← hf]
      exact zz_retz (v := true) C hr hP hS dX8_isNoTickToPlan_20
/-! X3_get TR -/
theorem zd_X3_get : yX3_get.cls = RX3 ∧ yX3_get.cls ≠ "java/lang/invoke/MethodHandle" ∧ yX3_get.cls ≠ "java/lang/invoke/VarHandle" ∧ (parseMethodDescriptor yX3_get.desc).map (fun d => d.parameters.length) = some 2 := by decide +kernel
abbrev zr_X3_get : Room := { frames := 1, cells := 0, slots := 0, locals := 24 }
theorem zk_X3_get_14 : Cond.fieldLink yX3_get.cls 14 RX3 "sectors" "LThirteenthDay$Table;" ∈ wsX3_get := by decide +kernel
theorem zi_X3_get_X3 : ∀ w ∈ u_ws RX3 TX3 1, w ∈ wsX3_get := by decide +kernel
def zX3_get (v1 : Int32) (v2 : Int32) (st : zz_T) : Int32 :=
  (zz_g 19 v1 v2 st)
set_option maxHeartbeats 4000000 in
set_option maxRecDepth 100000 in
theorem zc_X3_get {l : Launch} {A : Nat → Prop} {D : va_G} {cI : ClassId} {q : Nat → Nat} (v1 : Int32) (v2 : Int32) (st : zz_T) : zz_Mi l A D cI q yX3_get wsX3_get zr_X3_get [.ref (q 7), .int v1, .int v2] st (zX3_get v1 v2 st) st := by
  refine zz_of (cc := cX3_get) (nL := 3) (ret := some .int) (by decide) rfl (Nat.le_of_ble_eq_true rfl) ?_
  intro p e s m args below meth c ls C hr hP hS hl
  obtain ⟨hx, hb, hml, hown, hts⟩ := id C.1
  have hl : lv_has ls 3 [(0, .ref (q 7)), (1, .int v1), (2, .int v2)] := hl
  obtain ⟨r, hf⟩ : ∃ r, zX3_get v1 v2 st = r := ⟨_, rfl⟩
  rw [hf]
  rw [zX3_get] at hf
  skip
  refine lv_aload_n hx hb dX3_get_0 rfl (lv_at hl 0 rfl) ?_
  refine zz_getf C zi_X3_get_X3 hP 7 rfl rfl 0 (nm := "sectors") (ds := "LThirteenthDay$Table;") (fin := true) rfl (by decide) zk_X3_get_14 rfl dX3_get_1 ?_
  refine lv_iload_n hx hb dX3_get_4 rfl (lv_at hl 1 rfl) ?_
  refine lv_iload_n hx hb dX3_get_5 rfl (lv_at hl 2 rfl) ?_
  refine zz_callVi C (As := [.int v1, .int v2]) (rest := []) (zc_X5_get 19 (by decide) _ _ _) (cwV 2 hts gX3_get_X5_get rfl rfl rfl zd_X5_get ⟨Nat.le_of_ble_eq_true rfl, Nat.le_of_ble_eq_true rfl⟩) hP hS (9 + 19) (zz_c_tab (by decide)) rfl rfl hl rfl (Nat.le_of_ble_eq_true rfl) dX3_get_6 ⟨Nat.zero_le _, Nat.zero_le _⟩ (fun H locs hP hS => ?_)
  rw [← hf]
  exact zz_reti C hr hP hS dX3_get_9
/-! X8_isNotPlannable TR -/
theorem zd_X8_isNotPlannable : yX8_isNotPlannable.cls = RX8 ∧ yX8_isNotPlannable.cls ≠ "java/lang/invoke/MethodHandle" ∧ yX8_isNotPlannable.cls ≠ "java/lang/invoke/VarHandle" ∧ (parseMethodDescriptor yX8_isNotPlannable.desc).map (fun d => d.parameters.length) = some 1 := by decide +kernel
abbrev zr_X8_isNotPlannable : Room := { frames := 2, cells := 0, slots := 0, locals := 46 }
theorem zk_X8_isNotPlannable_19 : Cond.fieldLink yX8_isNotPlannable.cls 19 RX8 "units" "LThirteenthDay$Units;" ∈ wsX8_isNotPlannable := by decide +kernel
theorem zk_X8_isNotPlannable_50 : Cond.fieldLink yX8_isNotPlannable.cls 50 RX8 "sectors" "LThirteenthDay$Sectors;" ∈ wsX8_isNotPlannable := by decide +kernel
theorem zi_X8_isNotPlannable_X8 : ∀ w ∈ u_ws RX8 TX8 11, w ∈ wsX8_isNotPlannable := by decide +kernel
def zX8_isNotPlannable (v1 : Int32) (st : zz_T) : Bool :=
  if (zX7_get v1 4 st) = 3 then
    true
  else
    if (zX7_get v1 1 st) ≤ (zX7_get v1 7 st) then
      true
    else
      if (zX3_get (zX7_get v1 3 st) 0 st) = (-1) then
        true
      else
        false
set_option maxHeartbeats 4000000 in
set_option maxRecDepth 100000 in
theorem zc_X8_isNotPlannable {l : Launch} {A : Nat → Prop} {D : va_G} {cI : ClassId} {q : Nat → Nat} (v1 : Int32) (st : zz_T) : zz_Mi l A D cI q yX8_isNotPlannable wsX8_isNotPlannable zr_X8_isNotPlannable [.ref (q 0), .int v1] st (zz_b (zX8_isNotPlannable v1 st)) st := by
  refine zz_of (cc := cX8_isNotPlannable) (nL := 2) (ret := some .boolean) (by decide) rfl (Nat.le_of_ble_eq_true rfl) ?_
  intro p e s m args below meth c ls C hr hP hS hl
  obtain ⟨hx, hb, hml, hown, hts⟩ := id C.1
  have hl : lv_has ls 2 [(0, .ref (q 0)), (1, .int v1)] := hl
  obtain ⟨r, hf⟩ : ∃ r, zX8_isNotPlannable v1 st = r := ⟨_, rfl⟩
  rw [hf]
  rw [zX8_isNotPlannable] at hf
  skip
  refine lv_aload_n hx hb dX8_isNotPlannable_0 rfl (lv_at hl 0 rfl) ?_
  refine zz_getf C zi_X8_isNotPlannable_X8 hP 0 rfl rfl 1 (nm := "units") (ds := "LThirteenthDay$Units;") (fin := true) rfl (by decide) zk_X8_isNotPlannable_19 rfl dX8_isNotPlannable_1 ?_
  refine lv_iload_n hx hb dX8_isNotPlannable_4 rfl (lv_at hl 1 rfl) ?_
  refine lv_iconst (v := 4) hx hb dX8_isNotPlannable_5 (by decide) ?_
  refine zz_callVi C (As := [.int v1, .int 4]) (rest := []) (zc_X7_get _ _ _) (cwV 2 hts gX8_isNotPlannable_X7_get rfl rfl rfl zd_X7_get ⟨Nat.le_of_ble_eq_true rfl, Nat.le_of_ble_eq_true rfl⟩) hP hS 2 rfl rfl rfl hl rfl (Nat.le_of_ble_eq_true rfl) dX8_isNotPlannable_6 ⟨Nat.zero_le _, Nat.zero_le _⟩ (fun H locs hP hS => ?_)
  refine lv_iconst (v := 3) hx hb dX8_isNotPlannable_9 (by decide) ?_
  refine lv_icmp_eq (tgt := 56) hx hb dX8_isNotPlannable_10 (by decide) (fun h => ?_) (fun h => ?_)
  · rw [if_pos h] at hf
    refine lv_iconst (v := 1) hx hb dX8_isNotPlannable_56 (by decide) ?_
    refine lv_goto (tgt := 61) hx hb dX8_isNotPlannable_57 (by decide) ?_
    rw [← hf]
    exact zz_retz (v := true) C hr hP hS dX8_isNotPlannable_61
  · rw [if_neg h] at hf
    refine lv_aload_n hx hb dX8_isNotPlannable_13 rfl (lv_at hl 0 rfl) ?_
    refine zz_getf C zi_X8_isNotPlannable_X8 hP 0 rfl rfl 1 (nm := "units") (ds := "LThirteenthDay$Units;") (fin := true) rfl (by decide) zk_X8_isNotPlannable_19 rfl dX8_isNotPlannable_14 ?_
    refine lv_iload_n hx hb dX8_isNotPlannable_17 rfl (lv_at hl 1 rfl) ?_
    refine lv_bipush (v := 7) hx hb dX8_isNotPlannable_18 (by decide) ?_
    refine zz_callVi C (As := [.int v1, .int 7]) (rest := []) (zc_X7_get _ _ _) (cwV 2 hts gX8_isNotPlannable_X7_get rfl rfl rfl zd_X7_get ⟨Nat.le_of_ble_eq_true rfl, Nat.le_of_ble_eq_true rfl⟩) hP hS 2 rfl rfl rfl hl rfl (Nat.le_of_ble_eq_true rfl) dX8_isNotPlannable_20 ⟨Nat.zero_le _, Nat.zero_le _⟩ (fun H locs hP hS => ?_)
    refine lv_aload_n hx hb dX8_isNotPlannable_23 rfl (lv_at hl 0 rfl) ?_
    refine zz_getf C zi_X8_isNotPlannable_X8 hP 0 rfl rfl 1 (nm := "units") (ds := "LThirteenthDay$Units;") (fin := true) rfl (by decide) zk_X8_isNotPlannable_19 rfl dX8_isNotPlannable_24 ?_
    refine lv_iload_n hx hb dX8_isNotPlannable_27 rfl (lv_at hl 1 rfl) ?_
    refine lv_iconst (v := 1) hx hb dX8_isNotPlannable_28 (by decide) ?_
    refine zz_callVi C (As := [.int v1, .int 1]) (rest := [.int (zX7_get v1 7 st)]) (zc_X7_get _ _ _) (cwV 2 hts gX8_isNotPlannable_X7_get rfl rfl rfl zd_X7_get ⟨Nat.le_of_ble_eq_true rfl, Nat.le_of_ble_eq_true rfl⟩) hP hS 2 rfl rfl rfl hl rfl (Nat.le_of_ble_eq_true rfl) dX8_isNotPlannable_29 ⟨Nat.zero_le _, Nat.zero_le _⟩ (fun H locs hP hS => ?_)
    refine lv_icmp_ge (tgt := 56) hx hb dX8_isNotPlannable_32 (by decide) (fun h => ?_) (fun h => ?_)
    · rw [if_pos h] at hf
      refine lv_iconst (v := 1) hx hb dX8_isNotPlannable_56 (by decide) ?_
      refine lv_goto (tgt := 61) hx hb dX8_isNotPlannable_57 (by decide) ?_
      rw [← hf]
      exact zz_retz (v := true) C hr hP hS dX8_isNotPlannable_61
    · rw [if_neg h] at hf
      refine lv_aload_n hx hb dX8_isNotPlannable_35 rfl (lv_at hl 0 rfl) ?_
      refine zz_getf C zi_X8_isNotPlannable_X8 hP 0 rfl rfl 6 (nm := "sectors") (ds := "LThirteenthDay$Sectors;") (fin := true) rfl (by decide) zk_X8_isNotPlannable_50 rfl dX8_isNotPlannable_36 ?_
      refine lv_aload_n hx hb dX8_isNotPlannable_39 rfl (lv_at hl 0 rfl) ?_
      refine zz_getf C zi_X8_isNotPlannable_X8 hP 0 rfl rfl 1 (nm := "units") (ds := "LThirteenthDay$Units;") (fin := true) rfl (by decide) zk_X8_isNotPlannable_19 rfl dX8_isNotPlannable_40 ?_
      refine lv_iload_n hx hb dX8_isNotPlannable_43 rfl (lv_at hl 1 rfl) ?_
      refine lv_iconst (v := 3) hx hb dX8_isNotPlannable_44 (by decide) ?_
      refine zz_callVi C (As := [.int v1, .int 3]) (rest := [.ref (q 7)]) (zc_X7_get _ _ _) (cwV 2 hts gX8_isNotPlannable_X7_get rfl rfl rfl zd_X7_get ⟨Nat.le_of_ble_eq_true rfl, Nat.le_of_ble_eq_true rfl⟩) hP hS 2 rfl rfl rfl hl rfl (Nat.le_of_ble_eq_true rfl) dX8_isNotPlannable_45 ⟨Nat.zero_le _, Nat.zero_le _⟩ (fun H locs hP hS => ?_)
      refine lv_iconst (v := 0) hx hb dX8_isNotPlannable_48 (by decide) ?_
      refine zz_callVi C (As := [.int (zX7_get v1 3 st), .int 0]) (rest := []) (zc_X3_get _ _ _) (cwV 2 hts gX8_isNotPlannable_X3_get rfl rfl rfl zd_X3_get ⟨Nat.le_of_ble_eq_true rfl, Nat.le_of_ble_eq_true rfl⟩) hP hS 7 rfl rfl rfl hl rfl (Nat.le_of_ble_eq_true rfl) dX8_isNotPlannable_49 ⟨Nat.zero_le _, Nat.zero_le _⟩ (fun H locs hP hS => ?_)
      refine lv_iconst (v := (-1)) hx hb dX8_isNotPlannable_52 (by decide) ?_
      refine lv_icmp_ne (tgt := 60) hx hb dX8_isNotPlannable_53 (by decide) (fun h => ?_) (fun h => ?_)
      · rw [if_neg h] at hf
        refine lv_iconst (v := 0) hx hb dX8_isNotPlannable_60 (by decide) ?_
        rw [← hf]
        exact zz_retz (v := false) C hr hP hS dX8_isNotPlannable_61
      · rw [if_pos h] at hf
        refine lv_iconst (v := 1) hx hb dX8_isNotPlannable_56 (by decide) ?_
        refine lv_goto (tgt := 61) hx hb dX8_isNotPlannable_57 (by decide) ?_
        rw [← hf]
        exact zz_retz (v := true) C hr hP hS dX8_isNotPlannable_61
/-! X2_describe TW -/
theorem zd_X2_describe : yX2_describe.cls = RX2 ∧ yX2_describe.cls ≠ "java/lang/invoke/MethodHandle" ∧ yX2_describe.cls ≠ "java/lang/invoke/VarHandle" ∧ (parseMethodDescriptor yX2_describe.desc).map (fun d => d.parameters.length) = some 4 := by decide +kernel
abbrev zr_X2_describe : Room := { frames := 1, cells := 0, slots := 0, locals := 24 }
theorem zk_X2_describe_20 : Cond.fieldLink yX2_describe.cls 20 RX2 "facts" "LThirteenthDay$Table;" ∈ wsX2_describe := by decide +kernel
theorem zi_X2_describe_X2 : ∀ w ∈ u_ws RX2 TX2 5, w ∈ wsX2_describe := by decide +kernel
def zX2_describe (b : Nat) (v1 : Int32) (v2 : Int32) (v3 : Int32) (v4 : Int32) (st : zz_T) : zz_T :=
  zz_v (zz_set (b + 0) v1 2 v2 st) fun st1 =>
  zz_v (zz_set (b + 0) v1 3 v3 st1) fun st3 =>
  zz_v (zz_set (b + 0) v1 4 v4 st3) fun st5 =>
  st5
set_option maxHeartbeats 4000000 in
set_option maxRecDepth 100000 in
theorem zc_X2_describe {l : Launch} {A : Nat → Prop} {D : va_G} {cI : ClassId} {q : Nat → Nat} (o b : Nat) (hz : zz_P o b) (v1 : Int32) (v2 : Int32) (v3 : Int32) (v4 : Int32) (st : zz_T) : zz_Mv l A D cI q yX2_describe wsX2_describe zr_X2_describe [.ref (q o), .int v1, .int v2, .int v3, .int v4] st (zX2_describe b v1 v2 v3 v4 st) := by
  refine zz_of (cc := cX2_describe) (nL := 5) (ret := none) (by decide) rfl (Nat.le_of_ble_eq_true rfl) ?_
  intro p e s m args below meth c ls C hr hP hS hl
  obtain ⟨hx, hb, hml, hown, hts⟩ := id C.1
  have hl : lv_has ls 5 [(0, .ref (q o)), (1, .int v1), (2, .int v2), (3, .int v3), (4, .int v4)] := hl
  obtain ⟨r, hf⟩ : ∃ r, zX2_describe b v1 v2 v3 v4 st = r := ⟨_, rfl⟩
  rw [hf]
  rw [zX2_describe] at hf
  skip
  refine lv_aload_n hx hb dX2_describe_0 rfl (lv_at hl 0 rfl) ?_
  refine zz_getf C zi_X2_describe_X2 hP o (zz_c_pa hz) rfl 0 (nm := "facts") (ds := "LThirteenthDay$Table;") (fin := true) rfl (by decide) zk_X2_describe_20 rfl dX2_describe_1 ?_
  refine lv_iload_n hx hb dX2_describe_4 rfl (lv_at hl 1 rfl) ?_
  refine lv_iconst (v := 2) hx hb dX2_describe_5 (by decide) ?_
  refine lv_iload_n hx hb dX2_describe_6 rfl (lv_at hl 2 rfl) ?_
  obtain ⟨st1, e2, hf⟩ := zz_vo hf
  refine zz_callVv C (As := [.int v1, .int 2, .int v2]) (rest := []) (zz_Mv_e e2 (zc_X5_set (b + 0) (zz_Plt hz (by decide)) _ _ _ _)) (cwV 3 hts gX2_describe_X5_set rfl rfl rfl zd_X5_set ⟨Nat.le_of_ble_eq_true rfl, Nat.le_of_ble_eq_true rfl⟩) hP hS (9 + (b + 0)) (zz_c_tab (zz_Plt hz (by decide))) rfl rfl hl rfl (Nat.le_of_ble_eq_true rfl) dX2_describe_7 ⟨Nat.zero_le _, Nat.zero_le _⟩ (fun H locs hP hS => ?_)
  refine lv_aload_n hx hb dX2_describe_10 rfl (lv_at hl 0 rfl) ?_
  refine zz_getf C zi_X2_describe_X2 hP o (zz_c_pa hz) rfl 0 (nm := "facts") (ds := "LThirteenthDay$Table;") (fin := true) rfl (by decide) zk_X2_describe_20 rfl dX2_describe_11 ?_
  refine lv_iload_n hx hb dX2_describe_14 rfl (lv_at hl 1 rfl) ?_
  refine lv_iconst (v := 3) hx hb dX2_describe_15 (by decide) ?_
  refine lv_iload_n hx hb dX2_describe_16 rfl (lv_at hl 3 rfl) ?_
  obtain ⟨st3, e4, hf⟩ := zz_vo hf
  refine zz_callVv C (As := [.int v1, .int 3, .int v3]) (rest := []) (zz_Mv_e e4 (zc_X5_set (b + 0) (zz_Plt hz (by decide)) _ _ _ _)) (cwV 3 hts gX2_describe_X5_set rfl rfl rfl zd_X5_set ⟨Nat.le_of_ble_eq_true rfl, Nat.le_of_ble_eq_true rfl⟩) hP hS (9 + (b + 0)) (zz_c_tab (zz_Plt hz (by decide))) rfl rfl hl rfl (Nat.le_of_ble_eq_true rfl) dX2_describe_17 ⟨Nat.zero_le _, Nat.zero_le _⟩ (fun H locs hP hS => ?_)
  refine lv_aload_n hx hb dX2_describe_20 rfl (lv_at hl 0 rfl) ?_
  refine zz_getf C zi_X2_describe_X2 hP o (zz_c_pa hz) rfl 0 (nm := "facts") (ds := "LThirteenthDay$Table;") (fin := true) rfl (by decide) zk_X2_describe_20 rfl dX2_describe_21 ?_
  refine lv_iload_n hx hb dX2_describe_24 rfl (lv_at hl 1 rfl) ?_
  refine lv_iconst (v := 4) hx hb dX2_describe_25 (by decide) ?_
  refine lv_iload hx hb dX2_describe_26 (lv_at hl 4 rfl) ?_
  obtain ⟨st5, e6, hf⟩ := zz_vo hf
  refine zz_callVv C (As := [.int v1, .int 4, .int v4]) (rest := []) (zz_Mv_e e6 (zc_X5_set (b + 0) (zz_Plt hz (by decide)) _ _ _ _)) (cwV 3 hts gX2_describe_X5_set rfl rfl rfl zd_X5_set ⟨Nat.le_of_ble_eq_true rfl, Nat.le_of_ble_eq_true rfl⟩) hP hS (9 + (b + 0)) (zz_c_tab (zz_Plt hz (by decide))) rfl rfl hl rfl (Nat.le_of_ble_eq_true rfl) dX2_describe_28 ⟨Nat.zero_le _, Nat.zero_le _⟩ (fun H locs hP hS => ?_)
  rw [← hf]
  exact zz_retv C hr hP hS dX2_describe_31
/-! X2_foulsOn PR -/
theorem zd_X2_foulsOn : yX2_foulsOn.cls = RX2 ∧ yX2_foulsOn.cls ≠ "java/lang/invoke/MethodHandle" ∧ yX2_foulsOn.cls ≠ "java/lang/invoke/VarHandle" ∧ (parseMethodDescriptor yX2_foulsOn.desc).map (fun d => d.parameters.length) = some 2 := by decide +kernel
abbrev zr_X2_foulsOn : Room := { frames := 1, cells := 0, slots := 0, locals := 24 }
theorem zq_X2_foulsOn_abs : Cond.methodLink yX2_foulsOn.cls 94 Lib.Math.abs.name ∈ wsX2_foulsOn ∧ Cond.static Lib.Math.abs.name ∈ wsX2_foulsOn ∧ Cond.initialized "java/lang/Math" ∈ wsX2_foulsOn ∧ Cond.code Lib.Math.abs.name Lib.Math.abs.code 1 (some .int) ∈ wsX2_foulsOn := by decide +kernel
theorem zk_X2_foulsOn_20 : Cond.fieldLink yX2_foulsOn.cls 20 RX2 "facts" "LThirteenthDay$Table;" ∈ wsX2_foulsOn := by decide +kernel
theorem zk_X2_foulsOn_29 : Cond.fieldLink yX2_foulsOn.cls 29 RX2 "offsets" "LThirteenthDay$Table;" ∈ wsX2_foulsOn := by decide +kernel
theorem zk_X2_foulsOn_35 : Cond.fieldLink yX2_foulsOn.cls 35 RX2 "tracks" "LThirteenthDay$Table;" ∈ wsX2_foulsOn := by decide +kernel
theorem zk_X2_foulsOn_32 : Cond.fieldLink yX2_foulsOn.cls 32 RX2 "forwards" "LThirteenthDay$Table;" ∈ wsX2_foulsOn := by decide +kernel
theorem zi_X2_foulsOn_X2 : ∀ w ∈ u_ws RX2 TX2 5, w ∈ wsX2_foulsOn := by decide +kernel
def zX2_foulsOn_134 (b : Nat) (k62 : Int32 → Int32 → Int32 → Int32 → Int32 → Int32 → zz_T → Option Bool) (v1 : Int32) (v2 : Int32) (v3 : Int32) (v4 : Int32) (v5 : Int32) (v6 : Int32) (v7 : Int32) (k0 : Bool) (st : zz_T) : Option Bool :=
  zz_v (zz_abs ((v7 + (zz_g (b + 2) v6 v2 st)) - v3)) fun w5 =>
  if k0 = true then
    if v4 ≤ w5 then
      k62 v1 v2 v3 v4 v5 (v6 + 1) st
    else
      some true
  else
    if v5 ≤ w5 then
      k62 v1 v2 v3 v4 v5 (v6 + 1) st
    else
      some true
set_option maxHeartbeats 4000000 in
set_option maxRecDepth 100000 in
theorem zt_X2_foulsOn_134 {l : Launch} {A : Nat → Prop} {D : va_G} {cI : ClassId} {q : Nat → Nat} {p : Program} {e : Env} {s : State} {m : MethodId} {args : Array Value} {below : List Frame} {meth : Method} {c : Code} (C : zz_C A D cI q p s m args meth c cX2_foulsOn 10 wsX2_foulsOn yX2_foulsOn.cls) (hr : meth.sig.returnType = some .boolean) (o b : Nat) (hz : zz_P o b) (k62 : Int32 → Int32 → Int32 → Int32 → Int32 → Int32 → zz_T → Option Bool) (hk62 : ∀ (v1 : Int32) (v2 : Int32) (v3 : Int32) (v4 : Int32) (v5 : Int32) (v6 : Int32) (st : zz_T) (H : Heap) (locs : List Loc) (ls : Array Slot) (r : Bool), k62 v1 v2 v3 v4 v5 v6 st = some r → va_P D vwCl (zz_c q cI st) H → va_S A s.heap H locs → lv_has ls 10 [(0, .ref (q o)), (1, .int v1), (2, .int v2), (3, .int v3), (4, .int v4), (5, .int v5), (6, .int v6)] → W p l e zr_X2_foulsOn s m args below meth c H locs 0 0 (zz_Qi A D cI q (zz_b r) st below args s) (F0 m 62 ls [])) : ∀ (v1 : Int32) (v2 : Int32) (v3 : Int32) (v4 : Int32) (v5 : Int32) (v6 : Int32) (v7 : Int32) (k0 : Bool) (st : zz_T) (H : Heap) (locs : List Loc) (ls : Array Slot) (r : Bool), zX2_foulsOn_134 b k62 v1 v2 v3 v4 v5 v6 v7 k0 st = some r → va_P D vwCl (zz_c q cI st) H → va_S A s.heap H locs → lv_has ls 10 [(0, .ref (q o)), (1, .int v1), (2, .int v2), (3, .int v3), (4, .int v4), (5, .int v5), (6, .int v6), (7, .int v7)] → W p l e zr_X2_foulsOn s m args below meth c H locs 0 0 (zz_Qi A D cI q (zz_b r) st below args s) (F0 m 134 ls [.int (zz_b k0)]) := by
  obtain ⟨hx, hb, hml, hown, hts⟩ := id C.1
  intro v1 v2 v3 v4 v5 v6 v7 k0 st H locs ls r hf hP hS hl
  rw [zX2_foulsOn_134] at hf
  refine lv_istore (lv' := [(8, .int (zz_b k0)), (0, .ref (q o)), (1, .int v1), (2, .int v2), (3, .int v3), (4, .int v4), (5, .int v5), (6, .int v6), (7, .int v7)]) hx hb dX2_foulsOn_134 hl (by decide) rfl (fun ls hl => ?_)
  refine lv_iload hx hb dX2_foulsOn_136 (lv_at hl 8 rfl) ?_
  refine lv_aload_n hx hb dX2_foulsOn_138 rfl (lv_at hl 1 rfl) ?_
  refine zz_getf C zi_X2_foulsOn_X2 hP o (zz_c_pa hz) rfl 2 (nm := "offsets") (ds := "LThirteenthDay$Table;") (fin := true) rfl (by decide) zk_X2_foulsOn_29 rfl dX2_foulsOn_139 ?_
  refine lv_iload hx hb dX2_foulsOn_142 (lv_at hl 7 rfl) ?_
  refine lv_iload_n hx hb dX2_foulsOn_144 rfl (lv_at hl 3 rfl) ?_
  refine zz_callVi C (As := [.int v6, .int v2]) (rest := [.int v7]) (zc_X5_get (b + 2) (zz_Plt hz (by decide)) _ _ _) (cwV 2 hts gX2_foulsOn_X5_get rfl rfl rfl zd_X5_get ⟨Nat.le_of_ble_eq_true rfl, Nat.le_of_ble_eq_true rfl⟩) hP hS (9 + (b + 2)) (zz_c_tab (zz_Plt hz (by decide))) rfl rfl hl rfl (Nat.le_of_ble_eq_true rfl) dX2_foulsOn_145 ⟨Nat.zero_le _, Nat.zero_le _⟩ (fun H locs hP hS => ?_)
  refine lv_iadd hx hb dX2_foulsOn_148 ?_
  refine lv_iload_n hx hb dX2_foulsOn_149 rfl (lv_at hl 4 rfl) ?_
  refine lv_isub hx hb dX2_foulsOn_150 ?_
  refine zz_mabs C zq_X2_foulsOn_abs hl (by decide) (Nat.le_of_ble_eq_true rfl) ⟨Nat.zero_le _, Nat.zero_le _⟩ dX2_foulsOn_151 ?_
  refine lv_topi (fun w5 e5 => ?_)
  replace hf := zz_vi hf e5
  refine lv_istore (lv' := [(9, .int w5), (8, .int (zz_b k0)), (0, .ref (q o)), (1, .int v1), (2, .int v2), (3, .int v3), (4, .int v4), (5, .int v5), (6, .int v6), (7, .int v7)]) hx hb dX2_foulsOn_154 hl (by decide) rfl (fun ls hl => ?_)
  refine lv_iload hx hb dX2_foulsOn_156 (lv_at hl 0 rfl) ?_
  refine lv_iload hx hb dX2_foulsOn_158 (lv_at hl 1 rfl) ?_
  refine lv_if_eq (tgt := 168) hx hb dX2_foulsOn_160 (by decide) (fun h => ?_) (fun h => ?_)
  · rw [zz_if0 (zz_b0 h)] at hf
    refine lv_iload hx hb dX2_foulsOn_168 (lv_at hl 7 rfl) ?_
    refine lv_icmp_ge (tgt := 175) hx hb dX2_foulsOn_170 (by decide) (fun h => ?_) (fun h => ?_)
    · rw [if_pos h] at hf
      refine lv_iinc (v := (v6 + 1)) (lv' := [(6, .int (v6 + 1)), (9, .int w5), (8, .int (zz_b k0)), (0, .ref (q o)), (1, .int v1), (2, .int v2), (3, .int v3), (4, .int v4), (5, .int v5), (7, .int v7)]) hx hb dX2_foulsOn_175 hl (k := 8) rfl (congrArg (fun z => v6 + z) (by decide)) (by decide) rfl (fun ls hl => ?_)
      refine lv_goto (tgt := 62) hx hb dX2_foulsOn_178 (by decide) ?_
      exact hk62 _ _ _ _ _ _ _ _ _ _ _ hf hP hS (lv_sub hl [3, 4, 5, 6, 7, 8, 0] rfl)
    · rw [if_neg h] at hf
      refine lv_iconst (v := 1) hx hb dX2_foulsOn_173 (by decide) ?_
      rw [← (Option.some.inj hf)]
      exact zz_retz (v := true) C hr hP hS dX2_foulsOn_174
  · rw [zz_if1 (zz_b1 h)] at hf
    refine lv_iload hx hb dX2_foulsOn_163 (lv_at hl 6 rfl) ?_
    refine lv_goto (tgt := 170) hx hb dX2_foulsOn_165 (by decide) ?_
    refine lv_icmp_ge (tgt := 175) hx hb dX2_foulsOn_170 (by decide) (fun h => ?_) (fun h => ?_)
    · rw [if_pos h] at hf
      refine lv_iinc (v := (v6 + 1)) (lv' := [(6, .int (v6 + 1)), (9, .int w5), (8, .int (zz_b k0)), (0, .ref (q o)), (1, .int v1), (2, .int v2), (3, .int v3), (4, .int v4), (5, .int v5), (7, .int v7)]) hx hb dX2_foulsOn_175 hl (k := 8) rfl (congrArg (fun z => v6 + z) (by decide)) (by decide) rfl (fun ls hl => ?_)
      refine lv_goto (tgt := 62) hx hb dX2_foulsOn_178 (by decide) ?_
      exact hk62 _ _ _ _ _ _ _ _ _ _ _ hf hP hS (lv_sub hl [3, 4, 5, 6, 7, 8, 0] rfl)
    · rw [if_neg h] at hf
      refine lv_iconst (v := 1) hx hb dX2_foulsOn_173 (by decide) ?_
      rw [← (Option.some.inj hf)]
      exact zz_retz (v := true) C hr hP hS dX2_foulsOn_174
def zX2_foulsOn_62 (b : Nat) : Nat → Int32 → Int32 → Int32 → Int32 → Int32 → Int32 → zz_T → Option Bool
  | 0, _, _, _, _, _, _, _ => none
  | n + 1, v1, v2, v3, v4, v5, v6, st =>
    if 54 ≤ v6 then
      some false
    else
      zz_v (zz_g (b + 0) v6 0 st) fun w4 =>
      if w4 = (-1) then
        zX2_foulsOn_62 b n v1 v2 v3 v4 v5 (v6 + 1) st
      else
        if v6 = v1 then
          zX2_foulsOn_62 b n v1 v2 v3 v4 v5 (v6 + 1) st
        else
          if (zz_g (b + 2) v6 v2 st) = (-1) then
            zX2_foulsOn_62 b n v1 v2 v3 v4 v5 (v6 + 1) st
          else
            if (zz_g (b + 3) v6 v2 st) = (zz_g (b + 3) v1 v2 st) then
              zX2_foulsOn_134 b (fun v1' v2' v3' v4' v5' v6' st' => zX2_foulsOn_62 b n v1' v2' v3' v4' v5' v6' st') v1 v2 v3 v4 v5 v6 w4 true st
            else
              zX2_foulsOn_134 b (fun v1' v2' v3' v4' v5' v6' st' => zX2_foulsOn_62 b n v1' v2' v3' v4' v5' v6' st') v1 v2 v3 v4 v5 v6 w4 false st
set_option maxHeartbeats 4000000 in
set_option maxRecDepth 100000 in
theorem zt_X2_foulsOn_62 {l : Launch} {A : Nat → Prop} {D : va_G} {cI : ClassId} {q : Nat → Nat} {p : Program} {e : Env} {s : State} {m : MethodId} {args : Array Value} {below : List Frame} {meth : Method} {c : Code} (C : zz_C A D cI q p s m args meth c cX2_foulsOn 10 wsX2_foulsOn yX2_foulsOn.cls) (hr : meth.sig.returnType = some .boolean) (o b : Nat) (hz : zz_P o b) : ∀ (n : Nat) (v1 : Int32) (v2 : Int32) (v3 : Int32) (v4 : Int32) (v5 : Int32) (v6 : Int32) (st : zz_T) (H : Heap) (locs : List Loc) (ls : Array Slot) (r : Bool), zX2_foulsOn_62 b n v1 v2 v3 v4 v5 v6 st = some r → va_P D vwCl (zz_c q cI st) H → va_S A s.heap H locs → lv_has ls 10 [(0, .ref (q o)), (1, .int v1), (2, .int v2), (3, .int v3), (4, .int v4), (5, .int v5), (6, .int v6)] → W p l e zr_X2_foulsOn s m args below meth c H locs 0 0 (zz_Qi A D cI q (zz_b r) st below args s) (F0 m 62 ls []) := by
  obtain ⟨hx, hb, hml, hown, hts⟩ := id C.1
  intro n
  induction n with
  | zero => intro v1 v2 v3 v4 v5 v6 st H locs ls r hf; cases hf
  | succ n ih =>
    intro v1 v2 v3 v4 v5 v6 st H locs ls r hf hP hS hl
    rw [zX2_foulsOn_62] at hf
    refine lv_iload hx hb dX2_foulsOn_62 (lv_at hl 6 rfl) ?_
    refine lv_bipush (v := 54) hx hb dX2_foulsOn_64 (by decide) ?_
    refine lv_icmp_ge (tgt := 181) hx hb dX2_foulsOn_66 (by decide) (fun h => ?_) (fun h => ?_)
    · rw [if_pos h] at hf
      refine lv_iconst (v := 0) hx hb dX2_foulsOn_181 (by decide) ?_
      rw [← (Option.some.inj hf)]
      exact zz_retz (v := false) C hr hP hS dX2_foulsOn_182
    · rw [if_neg h] at hf
      refine lv_aload_n hx hb dX2_foulsOn_69 rfl (lv_at hl 0 rfl) ?_
      refine zz_getf C zi_X2_foulsOn_X2 hP o (zz_c_pa hz) rfl 0 (nm := "facts") (ds := "LThirteenthDay$Table;") (fin := true) rfl (by decide) zk_X2_foulsOn_20 rfl dX2_foulsOn_70 ?_
      refine lv_iload hx hb dX2_foulsOn_73 (lv_at hl 6 rfl) ?_
      refine lv_iconst (v := 0) hx hb dX2_foulsOn_75 (by decide) ?_
      refine zz_callVi C (As := [.int v6, .int 0]) (rest := []) (zc_X5_get (b + 0) (zz_Plt hz (by decide)) _ _ _) (cwV 2 hts gX2_foulsOn_X5_get rfl rfl rfl zd_X5_get ⟨Nat.le_of_ble_eq_true rfl, Nat.le_of_ble_eq_true rfl⟩) hP hS (9 + (b + 0)) (zz_c_tab (zz_Plt hz (by decide))) rfl rfl hl rfl (Nat.le_of_ble_eq_true rfl) dX2_foulsOn_76 ⟨Nat.zero_le _, Nat.zero_le _⟩ (fun H locs hP hS => ?_)
      refine lv_topi (fun w4 e4 => ?_)
      replace hf := zz_vi hf e4
      refine lv_istore (lv' := [(7, .int w4), (0, .ref (q o)), (1, .int v1), (2, .int v2), (3, .int v3), (4, .int v4), (5, .int v5), (6, .int v6)]) hx hb dX2_foulsOn_79 hl (by decide) rfl (fun ls hl => ?_)
      refine lv_iload hx hb dX2_foulsOn_81 (lv_at hl 0 rfl) ?_
      refine lv_iconst (v := (-1)) hx hb dX2_foulsOn_83 (by decide) ?_
      refine lv_icmp_eq (tgt := 175) hx hb dX2_foulsOn_84 (by decide) (fun h => ?_) (fun h => ?_)
      · rw [if_pos h] at hf
        refine lv_iinc (v := (v6 + 1)) (lv' := [(6, .int (v6 + 1)), (7, .int w4), (0, .ref (q o)), (1, .int v1), (2, .int v2), (3, .int v3), (4, .int v4), (5, .int v5)]) hx hb dX2_foulsOn_175 hl (k := 7) rfl (congrArg (fun z => v6 + z) (by decide)) (by decide) rfl (fun ls hl => ?_)
        refine lv_goto (tgt := 62) hx hb dX2_foulsOn_178 (by decide) ?_
        exact ih _ _ _ _ _ _ _ _ _ _ _ hf hP hS (lv_sub hl [2, 3, 4, 5, 6, 7, 0] rfl)
      · rw [if_neg h] at hf
        refine lv_iload hx hb dX2_foulsOn_87 (lv_at hl 7 rfl) ?_
        refine lv_iload_n hx hb dX2_foulsOn_89 rfl (lv_at hl 2 rfl) ?_
        refine lv_icmp_eq (tgt := 175) hx hb dX2_foulsOn_90 (by decide) (fun h => ?_) (fun h => ?_)
        · rw [if_pos h] at hf
          refine lv_iinc (v := (v6 + 1)) (lv' := [(6, .int (v6 + 1)), (7, .int w4), (0, .ref (q o)), (1, .int v1), (2, .int v2), (3, .int v3), (4, .int v4), (5, .int v5)]) hx hb dX2_foulsOn_175 hl (k := 7) rfl (congrArg (fun z => v6 + z) (by decide)) (by decide) rfl (fun ls hl => ?_)
          refine lv_goto (tgt := 62) hx hb dX2_foulsOn_178 (by decide) ?_
          exact ih _ _ _ _ _ _ _ _ _ _ _ hf hP hS (lv_sub hl [2, 3, 4, 5, 6, 7, 0] rfl)
        · rw [if_neg h] at hf
          refine lv_aload_n hx hb dX2_foulsOn_93 rfl (lv_at hl 1 rfl) ?_
          refine zz_getf C zi_X2_foulsOn_X2 hP o (zz_c_pa hz) rfl 2 (nm := "offsets") (ds := "LThirteenthDay$Table;") (fin := true) rfl (by decide) zk_X2_foulsOn_29 rfl dX2_foulsOn_94 ?_
          refine lv_iload hx hb dX2_foulsOn_97 (lv_at hl 7 rfl) ?_
          refine lv_iload_n hx hb dX2_foulsOn_99 rfl (lv_at hl 3 rfl) ?_
          refine zz_callVi C (As := [.int v6, .int v2]) (rest := []) (zc_X5_get (b + 2) (zz_Plt hz (by decide)) _ _ _) (cwV 2 hts gX2_foulsOn_X5_get rfl rfl rfl zd_X5_get ⟨Nat.le_of_ble_eq_true rfl, Nat.le_of_ble_eq_true rfl⟩) hP hS (9 + (b + 2)) (zz_c_tab (zz_Plt hz (by decide))) rfl rfl hl rfl (Nat.le_of_ble_eq_true rfl) dX2_foulsOn_100 ⟨Nat.zero_le _, Nat.zero_le _⟩ (fun H locs hP hS => ?_)
          refine lv_iconst (v := (-1)) hx hb dX2_foulsOn_103 (by decide) ?_
          refine lv_icmp_eq (tgt := 175) hx hb dX2_foulsOn_104 (by decide) (fun h => ?_) (fun h => ?_)
          · rw [if_pos h] at hf
            refine lv_iinc (v := (v6 + 1)) (lv' := [(6, .int (v6 + 1)), (7, .int w4), (0, .ref (q o)), (1, .int v1), (2, .int v2), (3, .int v3), (4, .int v4), (5, .int v5)]) hx hb dX2_foulsOn_175 hl (k := 7) rfl (congrArg (fun z => v6 + z) (by decide)) (by decide) rfl (fun ls hl => ?_)
            refine lv_goto (tgt := 62) hx hb dX2_foulsOn_178 (by decide) ?_
            exact ih _ _ _ _ _ _ _ _ _ _ _ hf hP hS (lv_sub hl [2, 3, 4, 5, 6, 7, 0] rfl)
          · rw [if_neg h] at hf
            refine lv_aload_n hx hb dX2_foulsOn_107 rfl (lv_at hl 1 rfl) ?_
            refine zz_getf C zi_X2_foulsOn_X2 hP o (zz_c_pa hz) rfl 3 (nm := "forwards") (ds := "LThirteenthDay$Table;") (fin := true) rfl (by decide) zk_X2_foulsOn_32 rfl dX2_foulsOn_108 ?_
            refine lv_iload hx hb dX2_foulsOn_111 (lv_at hl 7 rfl) ?_
            refine lv_iload_n hx hb dX2_foulsOn_113 rfl (lv_at hl 3 rfl) ?_
            refine zz_callVi C (As := [.int v6, .int v2]) (rest := []) (zc_X5_get (b + 3) (zz_Plt hz (by decide)) _ _ _) (cwV 2 hts gX2_foulsOn_X5_get rfl rfl rfl zd_X5_get ⟨Nat.le_of_ble_eq_true rfl, Nat.le_of_ble_eq_true rfl⟩) hP hS (9 + (b + 3)) (zz_c_tab (zz_Plt hz (by decide))) rfl rfl hl rfl (Nat.le_of_ble_eq_true rfl) dX2_foulsOn_114 ⟨Nat.zero_le _, Nat.zero_le _⟩ (fun H locs hP hS => ?_)
            refine lv_aload_n hx hb dX2_foulsOn_117 rfl (lv_at hl 1 rfl) ?_
            refine zz_getf C zi_X2_foulsOn_X2 hP o (zz_c_pa hz) rfl 3 (nm := "forwards") (ds := "LThirteenthDay$Table;") (fin := true) rfl (by decide) zk_X2_foulsOn_32 rfl dX2_foulsOn_118 ?_
            refine lv_iload_n hx hb dX2_foulsOn_121 rfl (lv_at hl 2 rfl) ?_
            refine lv_iload_n hx hb dX2_foulsOn_122 rfl (lv_at hl 3 rfl) ?_
            refine zz_callVi C (As := [.int v1, .int v2]) (rest := [.int (zz_g (b + 3) v6 v2 st)]) (zc_X5_get (b + 3) (zz_Plt hz (by decide)) _ _ _) (cwV 2 hts gX2_foulsOn_X5_get rfl rfl rfl zd_X5_get ⟨Nat.le_of_ble_eq_true rfl, Nat.le_of_ble_eq_true rfl⟩) hP hS (9 + (b + 3)) (zz_c_tab (zz_Plt hz (by decide))) rfl rfl hl rfl (Nat.le_of_ble_eq_true rfl) dX2_foulsOn_123 ⟨Nat.zero_le _, Nat.zero_le _⟩ (fun H locs hP hS => ?_)
            refine lv_icmp_ne (tgt := 133) hx hb dX2_foulsOn_126 (by decide) (fun h => ?_) (fun h => ?_)
            · rw [if_neg h] at hf
              refine lv_iconst (v := 0) hx hb dX2_foulsOn_133 (by decide) ?_
              exact zt_X2_foulsOn_134 C hr o b hz _ ih _ _ _ _ _ _ _ _ _ _ _ _ _ hf hP hS (lv_sub hl [1, 2, 3, 4, 5, 6, 7, 0] rfl)
            · rw [if_pos h] at hf
              refine lv_iconst (v := 1) hx hb dX2_foulsOn_129 (by decide) ?_
              refine lv_goto (tgt := 134) hx hb dX2_foulsOn_130 (by decide) ?_
              exact zt_X2_foulsOn_134 C hr o b hz _ ih _ _ _ _ _ _ _ _ _ _ _ _ _ hf hP hS (lv_sub hl [1, 2, 3, 4, 5, 6, 7, 0] rfl)
def zX2_foulsOn (b : Nat) (v1 : Int32) (v2 : Int32) (st : zz_T) : Option Bool :=
  zz_v ((zz_g (b + 0) v1 0 st) + (zz_g (b + 2) v1 v2 st)) fun w1 =>
  zz_v (zz_g (b + 4) v2 0 st) fun w2 =>
  if (zz_g (b + 4) v2 2 st) = 1 then
    zX2_foulsOn_62 b zz_N v1 v2 w1 w2 0 0 st
  else
    zz_v (zz_g (b + 4) v2 1 st) fun w3 =>
    zX2_foulsOn_62 b zz_N v1 v2 w1 w2 w3 0 st
set_option maxHeartbeats 4000000 in
set_option maxRecDepth 100000 in
theorem zc_X2_foulsOn {l : Launch} {A : Nat → Prop} {D : va_G} {cI : ClassId} {q : Nat → Nat} (o b : Nat) (hz : zz_P o b) (v1 : Int32) (v2 : Int32) (st : zz_T) (r : Bool) (hf : zX2_foulsOn b v1 v2 st = some r) : zz_Mi l A D cI q yX2_foulsOn wsX2_foulsOn zr_X2_foulsOn [.ref (q o), .int v1, .int v2] st (zz_b r) st := by
  refine zz_of (cc := cX2_foulsOn) (nL := 10) (ret := some .boolean) (by decide) rfl (Nat.le_of_ble_eq_true rfl) ?_
  intro p e s m args below meth c ls C hr hP hS hl
  obtain ⟨hx, hb, hml, hown, hts⟩ := id C.1
  have hl : lv_has ls 10 [(0, .ref (q o)), (1, .int v1), (2, .int v2)] := hl
  rw [zX2_foulsOn] at hf
  skip
  refine lv_aload_n hx hb dX2_foulsOn_0 rfl (lv_at hl 0 rfl) ?_
  refine zz_getf C zi_X2_foulsOn_X2 hP o (zz_c_pa hz) rfl 0 (nm := "facts") (ds := "LThirteenthDay$Table;") (fin := true) rfl (by decide) zk_X2_foulsOn_20 rfl dX2_foulsOn_1 ?_
  refine lv_iload_n hx hb dX2_foulsOn_4 rfl (lv_at hl 1 rfl) ?_
  refine lv_iconst (v := 0) hx hb dX2_foulsOn_5 (by decide) ?_
  refine zz_callVi C (As := [.int v1, .int 0]) (rest := []) (zc_X5_get (b + 0) (zz_Plt hz (by decide)) _ _ _) (cwV 2 hts gX2_foulsOn_X5_get rfl rfl rfl zd_X5_get ⟨Nat.le_of_ble_eq_true rfl, Nat.le_of_ble_eq_true rfl⟩) hP hS (9 + (b + 0)) (zz_c_tab (zz_Plt hz (by decide))) rfl rfl hl rfl (Nat.le_of_ble_eq_true rfl) dX2_foulsOn_6 ⟨Nat.zero_le _, Nat.zero_le _⟩ (fun H locs hP hS => ?_)
  refine lv_aload_n hx hb dX2_foulsOn_9 rfl (lv_at hl 0 rfl) ?_
  refine zz_getf C zi_X2_foulsOn_X2 hP o (zz_c_pa hz) rfl 2 (nm := "offsets") (ds := "LThirteenthDay$Table;") (fin := true) rfl (by decide) zk_X2_foulsOn_29 rfl dX2_foulsOn_10 ?_
  refine lv_iload_n hx hb dX2_foulsOn_13 rfl (lv_at hl 1 rfl) ?_
  refine lv_iload_n hx hb dX2_foulsOn_14 rfl (lv_at hl 2 rfl) ?_
  refine zz_callVi C (As := [.int v1, .int v2]) (rest := [.int (zz_g (b + 0) v1 0 st)]) (zc_X5_get (b + 2) (zz_Plt hz (by decide)) _ _ _) (cwV 2 hts gX2_foulsOn_X5_get rfl rfl rfl zd_X5_get ⟨Nat.le_of_ble_eq_true rfl, Nat.le_of_ble_eq_true rfl⟩) hP hS (9 + (b + 2)) (zz_c_tab (zz_Plt hz (by decide))) rfl rfl hl rfl (Nat.le_of_ble_eq_true rfl) dX2_foulsOn_15 ⟨Nat.zero_le _, Nat.zero_le _⟩ (fun H locs hP hS => ?_)
  refine lv_iadd hx hb dX2_foulsOn_18 ?_
  refine lv_topi (fun w1 e1 => ?_)
  replace hf := zz_vi hf e1
  refine lv_istore_n (lv' := [(3, .int w1), (0, .ref (q o)), (1, .int v1), (2, .int v2)]) hx hb dX2_foulsOn_19 rfl hl (by decide) rfl (fun ls hl => ?_)
  refine lv_aload_n hx hb dX2_foulsOn_20 rfl (lv_at hl 1 rfl) ?_
  refine zz_getf C zi_X2_foulsOn_X2 hP o (zz_c_pa hz) rfl 4 (nm := "tracks") (ds := "LThirteenthDay$Table;") (fin := true) rfl (by decide) zk_X2_foulsOn_35 rfl dX2_foulsOn_21 ?_
  refine lv_iload_n hx hb dX2_foulsOn_24 rfl (lv_at hl 3 rfl) ?_
  refine lv_iconst (v := 0) hx hb dX2_foulsOn_25 (by decide) ?_
  refine zz_callVi C (As := [.int v2, .int 0]) (rest := []) (zc_X5_get (b + 4) (zz_Plt hz (by decide)) _ _ _) (cwV 2 hts gX2_foulsOn_X5_get rfl rfl rfl zd_X5_get ⟨Nat.le_of_ble_eq_true rfl, Nat.le_of_ble_eq_true rfl⟩) hP hS (9 + (b + 4)) (zz_c_tab (zz_Plt hz (by decide))) rfl rfl hl rfl (Nat.le_of_ble_eq_true rfl) dX2_foulsOn_26 ⟨Nat.zero_le _, Nat.zero_le _⟩ (fun H locs hP hS => ?_)
  refine lv_topi (fun w2 e2 => ?_)
  replace hf := zz_vi hf e2
  refine lv_istore (lv' := [(4, .int w2), (3, .int w1), (0, .ref (q o)), (1, .int v1), (2, .int v2)]) hx hb dX2_foulsOn_29 hl (by decide) rfl (fun ls hl => ?_)
  refine lv_aload_n hx hb dX2_foulsOn_31 rfl (lv_at hl 2 rfl) ?_
  refine zz_getf C zi_X2_foulsOn_X2 hP o (zz_c_pa hz) rfl 4 (nm := "tracks") (ds := "LThirteenthDay$Table;") (fin := true) rfl (by decide) zk_X2_foulsOn_35 rfl dX2_foulsOn_32 ?_
  refine lv_iload_n hx hb dX2_foulsOn_35 rfl (lv_at hl 4 rfl) ?_
  refine lv_iconst (v := 2) hx hb dX2_foulsOn_36 (by decide) ?_
  refine zz_callVi C (As := [.int v2, .int 2]) (rest := []) (zc_X5_get (b + 4) (zz_Plt hz (by decide)) _ _ _) (cwV 2 hts gX2_foulsOn_X5_get rfl rfl rfl zd_X5_get ⟨Nat.le_of_ble_eq_true rfl, Nat.le_of_ble_eq_true rfl⟩) hP hS (9 + (b + 4)) (zz_c_tab (zz_Plt hz (by decide))) rfl rfl hl rfl (Nat.le_of_ble_eq_true rfl) dX2_foulsOn_37 ⟨Nat.zero_le _, Nat.zero_le _⟩ (fun H locs hP hS => ?_)
  refine lv_iconst (v := 1) hx hb dX2_foulsOn_40 (by decide) ?_
  refine lv_icmp_ne (tgt := 48) hx hb dX2_foulsOn_41 (by decide) (fun h => ?_) (fun h => ?_)
  · rw [if_neg h] at hf
    refine lv_aload_n hx hb dX2_foulsOn_48 rfl (lv_at hl 2 rfl) ?_
    refine zz_getf C zi_X2_foulsOn_X2 hP o (zz_c_pa hz) rfl 4 (nm := "tracks") (ds := "LThirteenthDay$Table;") (fin := true) rfl (by decide) zk_X2_foulsOn_35 rfl dX2_foulsOn_49 ?_
    refine lv_iload_n hx hb dX2_foulsOn_52 rfl (lv_at hl 4 rfl) ?_
    refine lv_iconst (v := 1) hx hb dX2_foulsOn_53 (by decide) ?_
    refine zz_callVi C (As := [.int v2, .int 1]) (rest := []) (zc_X5_get (b + 4) (zz_Plt hz (by decide)) _ _ _) (cwV 2 hts gX2_foulsOn_X5_get rfl rfl rfl zd_X5_get ⟨Nat.le_of_ble_eq_true rfl, Nat.le_of_ble_eq_true rfl⟩) hP hS (9 + (b + 4)) (zz_c_tab (zz_Plt hz (by decide))) rfl rfl hl rfl (Nat.le_of_ble_eq_true rfl) dX2_foulsOn_54 ⟨Nat.zero_le _, Nat.zero_le _⟩ (fun H locs hP hS => ?_)
    refine lv_topi (fun w3 e3 => ?_)
    replace hf := zz_vi hf e3
    refine lv_istore (lv' := [(5, .int w3), (4, .int w2), (3, .int w1), (0, .ref (q o)), (1, .int v1), (2, .int v2)]) hx hb dX2_foulsOn_57 hl (by decide) rfl (fun ls hl => ?_)
    refine lv_iconst (v := 0) hx hb dX2_foulsOn_59 (by decide) ?_
    refine lv_istore (lv' := [(6, .int 0), (5, .int w3), (4, .int w2), (3, .int w1), (0, .ref (q o)), (1, .int v1), (2, .int v2)]) hx hb dX2_foulsOn_60 hl (by decide) rfl (fun ls hl => ?_)
    exact zt_X2_foulsOn_62 C hr o b hz zz_N _ _ _ _ _ _ _ _ _ _ _ hf hP hS (lv_sub hl [4, 5, 6, 3, 2, 1, 0] rfl)
  · rw [if_pos h] at hf
    refine lv_iconst (v := 0) hx hb dX2_foulsOn_44 (by decide) ?_
    refine lv_goto (tgt := 57) hx hb dX2_foulsOn_45 (by decide) ?_
    refine lv_istore (lv' := [(5, .int 0), (4, .int w2), (3, .int w1), (0, .ref (q o)), (1, .int v1), (2, .int v2)]) hx hb dX2_foulsOn_57 hl (by decide) rfl (fun ls hl => ?_)
    refine lv_iconst (v := 0) hx hb dX2_foulsOn_59 (by decide) ?_
    refine lv_istore (lv' := [(6, .int 0), (5, .int 0), (4, .int w2), (3, .int w1), (0, .ref (q o)), (1, .int v1), (2, .int v2)]) hx hb dX2_foulsOn_60 hl (by decide) rfl (fun ls hl => ?_)
    exact zt_X2_foulsOn_62 C hr o b hz zz_N _ _ _ _ _ _ _ _ _ _ _ hf hP hS (lv_sub hl [4, 5, 6, 3, 2, 1, 0] rfl)
/-! X2_firstFouledLine PR -/
theorem zd_X2_firstFouledLine : yX2_firstFouledLine.cls = RX2 ∧ yX2_firstFouledLine.cls ≠ "java/lang/invoke/MethodHandle" ∧ yX2_firstFouledLine.cls ≠ "java/lang/invoke/VarHandle" ∧ (parseMethodDescriptor yX2_firstFouledLine.desc).map (fun d => d.parameters.length) = some 1 := by decide +kernel
abbrev zr_X2_firstFouledLine : Room := { frames := 2, cells := 0, slots := 0, locals := 53 }
theorem zk_X2_firstFouledLine_20 : Cond.fieldLink yX2_firstFouledLine.cls 20 RX2 "facts" "LThirteenthDay$Table;" ∈ wsX2_firstFouledLine := by decide +kernel
theorem zk_X2_firstFouledLine_26 : Cond.fieldLink yX2_firstFouledLine.cls 26 RX2 "steps" "LThirteenthDay$Table;" ∈ wsX2_firstFouledLine := by decide +kernel
theorem zi_X2_firstFouledLine_X2 : ∀ w ∈ u_ws RX2 TX2 5, w ∈ wsX2_firstFouledLine := by decide +kernel
def zX2_firstFouledLine_2 (b : Nat) : Nat → Int32 → Int32 → zz_T → Option Int32
  | 0, _, _, _ => none
  | n + 1, v1, v2, st =>
    if (zz_g (b + 0) v1 1 st) ≤ v2 then
      some (-1)
    else
      zz_v (zz_g (b + 1) v1 v2 st) fun w1 =>
      (zX2_foulsOn b v1 w1 st).bind fun x2 =>
      if x2 = true then
        some w1
      else
        zX2_firstFouledLine_2 b n v1 (v2 + 1) st
set_option maxHeartbeats 4000000 in
set_option maxRecDepth 100000 in
theorem zt_X2_firstFouledLine_2 {l : Launch} {A : Nat → Prop} {D : va_G} {cI : ClassId} {q : Nat → Nat} {p : Program} {e : Env} {s : State} {m : MethodId} {args : Array Value} {below : List Frame} {meth : Method} {c : Code} (C : zz_C A D cI q p s m args meth c cX2_firstFouledLine 4 wsX2_firstFouledLine yX2_firstFouledLine.cls) (hr : meth.sig.returnType = some .int) (o b : Nat) (hz : zz_P o b) : ∀ (n : Nat) (v1 : Int32) (v2 : Int32) (st : zz_T) (H : Heap) (locs : List Loc) (ls : Array Slot) (r : Int32), zX2_firstFouledLine_2 b n v1 v2 st = some r → va_P D vwCl (zz_c q cI st) H → va_S A s.heap H locs → lv_has ls 4 [(0, .ref (q o)), (1, .int v1), (2, .int v2)] → W p l e zr_X2_firstFouledLine s m args below meth c H locs 0 0 (zz_Qi A D cI q r st below args s) (F0 m 2 ls []) := by
  obtain ⟨hx, hb, hml, hown, hts⟩ := id C.1
  intro n
  induction n with
  | zero => intro v1 v2 st H locs ls r hf; cases hf
  | succ n ih =>
    intro v1 v2 st H locs ls r hf hP hS hl
    rw [zX2_firstFouledLine_2] at hf
    refine lv_iload_n hx hb dX2_firstFouledLine_2 rfl (lv_at hl 2 rfl) ?_
    refine lv_aload_n hx hb dX2_firstFouledLine_3 rfl (lv_at hl 0 rfl) ?_
    refine zz_getf C zi_X2_firstFouledLine_X2 hP o (zz_c_pa hz) rfl 0 (nm := "facts") (ds := "LThirteenthDay$Table;") (fin := true) rfl (by decide) zk_X2_firstFouledLine_20 rfl dX2_firstFouledLine_4 ?_
    refine lv_iload_n hx hb dX2_firstFouledLine_7 rfl (lv_at hl 1 rfl) ?_
    refine lv_iconst (v := 1) hx hb dX2_firstFouledLine_8 (by decide) ?_
    refine zz_callVi C (As := [.int v1, .int 1]) (rest := [.int v2]) (zc_X5_get (b + 0) (zz_Plt hz (by decide)) _ _ _) (cwV 2 hts gX2_firstFouledLine_X5_get rfl rfl rfl zd_X5_get ⟨Nat.le_of_ble_eq_true rfl, Nat.le_of_ble_eq_true rfl⟩) hP hS (9 + (b + 0)) (zz_c_tab (zz_Plt hz (by decide))) rfl rfl hl rfl (Nat.le_of_ble_eq_true rfl) dX2_firstFouledLine_9 ⟨Nat.zero_le _, Nat.zero_le _⟩ (fun H locs hP hS => ?_)
    refine lv_icmp_ge (tgt := 42) hx hb dX2_firstFouledLine_12 (by decide) (fun h => ?_) (fun h => ?_)
    · rw [if_pos h] at hf
      refine lv_iconst (v := (-1)) hx hb dX2_firstFouledLine_42 (by decide) ?_
      rw [← (Option.some.inj hf)]
      exact zz_reti C hr hP hS dX2_firstFouledLine_43
    · rw [if_neg h] at hf
      refine lv_aload_n hx hb dX2_firstFouledLine_15 rfl (lv_at hl 0 rfl) ?_
      refine zz_getf C zi_X2_firstFouledLine_X2 hP o (zz_c_pa hz) rfl 1 (nm := "steps") (ds := "LThirteenthDay$Table;") (fin := true) rfl (by decide) zk_X2_firstFouledLine_26 rfl dX2_firstFouledLine_16 ?_
      refine lv_iload_n hx hb dX2_firstFouledLine_19 rfl (lv_at hl 1 rfl) ?_
      refine lv_iload_n hx hb dX2_firstFouledLine_20 rfl (lv_at hl 2 rfl) ?_
      refine zz_callVi C (As := [.int v1, .int v2]) (rest := []) (zc_X5_get (b + 1) (zz_Plt hz (by decide)) _ _ _) (cwV 2 hts gX2_firstFouledLine_X5_get rfl rfl rfl zd_X5_get ⟨Nat.le_of_ble_eq_true rfl, Nat.le_of_ble_eq_true rfl⟩) hP hS (9 + (b + 1)) (zz_c_tab (zz_Plt hz (by decide))) rfl rfl hl rfl (Nat.le_of_ble_eq_true rfl) dX2_firstFouledLine_21 ⟨Nat.zero_le _, Nat.zero_le _⟩ (fun H locs hP hS => ?_)
      refine lv_topi (fun w1 e1 => ?_)
      replace hf := zz_vi hf e1
      refine lv_istore_n (lv' := [(3, .int w1), (0, .ref (q o)), (1, .int v1), (2, .int v2)]) hx hb dX2_firstFouledLine_24 rfl hl (by decide) rfl (fun ls hl => ?_)
      refine lv_aload_n hx hb dX2_firstFouledLine_25 rfl (lv_at hl 1 rfl) ?_
      refine lv_iload_n hx hb dX2_firstFouledLine_26 rfl (lv_at hl 2 rfl) ?_
      refine lv_iload_n hx hb dX2_firstFouledLine_27 rfl (lv_at hl 0 rfl) ?_
      obtain ⟨x2, e3, hf⟩ := zz_bo hf
      refine zz_callVi C (As := [.int v1, .int w1]) (rest := []) (zc_X2_foulsOn o b hz _ _ _ _ e3) (cwV 2 hts gX2_firstFouledLine_X2_foulsOn rfl rfl rfl zd_X2_foulsOn ⟨Nat.le_of_ble_eq_true rfl, Nat.le_of_ble_eq_true rfl⟩) hP hS o (zz_c_pa hz) rfl rfl hl rfl (Nat.le_of_ble_eq_true rfl) dX2_firstFouledLine_28 ⟨Nat.zero_le _, Nat.zero_le _⟩ (fun H locs hP hS => ?_)
      refine lv_if_eq (tgt := 36) hx hb dX2_firstFouledLine_31 (by decide) (fun h => ?_) (fun h => ?_)
      · rw [zz_if0 (zz_b0 h)] at hf
        refine lv_iinc (v := (v2 + 1)) (lv' := [(2, .int (v2 + 1)), (3, .int w1), (0, .ref (q o)), (1, .int v1)]) hx hb dX2_firstFouledLine_36 hl (k := 3) rfl (congrArg (fun z => v2 + z) (by decide)) (by decide) rfl (fun ls hl => ?_)
        refine lv_goto (tgt := 2) hx hb dX2_firstFouledLine_39 (by decide) ?_
        exact ih _ _ _ _ _ _ _ hf hP hS (lv_sub hl [2, 3, 0] rfl)
      · rw [zz_if1 (zz_b1 h)] at hf
        refine lv_iload_n hx hb dX2_firstFouledLine_34 rfl (lv_at hl 0 rfl) ?_
        rw [← (Option.some.inj hf)]
        exact zz_reti C hr hP hS dX2_firstFouledLine_35
def zX2_firstFouledLine (b : Nat) (v1 : Int32) (st : zz_T) : Option Int32 :=
  zX2_firstFouledLine_2 b zz_N v1 0 st
set_option maxHeartbeats 4000000 in
set_option maxRecDepth 100000 in
theorem zc_X2_firstFouledLine {l : Launch} {A : Nat → Prop} {D : va_G} {cI : ClassId} {q : Nat → Nat} (o b : Nat) (hz : zz_P o b) (v1 : Int32) (st : zz_T) (r : Int32) (hf : zX2_firstFouledLine b v1 st = some r) : zz_Mi l A D cI q yX2_firstFouledLine wsX2_firstFouledLine zr_X2_firstFouledLine [.ref (q o), .int v1] st r st := by
  refine zz_of (cc := cX2_firstFouledLine) (nL := 4) (ret := some .int) (by decide) rfl (Nat.le_of_ble_eq_true rfl) ?_
  intro p e s m args below meth c ls C hr hP hS hl
  obtain ⟨hx, hb, hml, hown, hts⟩ := id C.1
  have hl : lv_has ls 4 [(0, .ref (q o)), (1, .int v1)] := hl
  rw [zX2_firstFouledLine] at hf
  skip
  refine lv_iconst (v := 0) hx hb dX2_firstFouledLine_0 (by decide) ?_
  refine lv_istore_n (lv' := [(2, .int 0), (0, .ref (q o)), (1, .int v1)]) hx hb dX2_firstFouledLine_1 rfl hl (by decide) rfl (fun ls hl => ?_)
  exact zt_X2_firstFouledLine_2 C hr o b hz zz_N _ _ _ _ _ _ _ hf hP hS (lv_sub hl [1, 2, 0] rfl)
/-! X2_arrivesOf TR -/
theorem zd_X2_arrivesOf : yX2_arrivesOf.cls = RX2 ∧ yX2_arrivesOf.cls ≠ "java/lang/invoke/MethodHandle" ∧ yX2_arrivesOf.cls ≠ "java/lang/invoke/VarHandle" ∧ (parseMethodDescriptor yX2_arrivesOf.desc).map (fun d => d.parameters.length) = some 1 := by decide +kernel
abbrev zr_X2_arrivesOf : Room := { frames := 1, cells := 0, slots := 0, locals := 24 }
theorem zk_X2_arrivesOf_20 : Cond.fieldLink yX2_arrivesOf.cls 20 RX2 "facts" "LThirteenthDay$Table;" ∈ wsX2_arrivesOf := by decide +kernel
theorem zi_X2_arrivesOf_X2 : ∀ w ∈ u_ws RX2 TX2 5, w ∈ wsX2_arrivesOf := by decide +kernel
def zX2_arrivesOf (b : Nat) (v1 : Int32) (st : zz_T) : Int32 :=
  ((zz_g (b + 0) v1 0 st) + (zz_g (b + 0) v1 5 st))
set_option maxHeartbeats 4000000 in
set_option maxRecDepth 100000 in
theorem zc_X2_arrivesOf {l : Launch} {A : Nat → Prop} {D : va_G} {cI : ClassId} {q : Nat → Nat} (o b : Nat) (hz : zz_P o b) (v1 : Int32) (st : zz_T) : zz_Mi l A D cI q yX2_arrivesOf wsX2_arrivesOf zr_X2_arrivesOf [.ref (q o), .int v1] st (zX2_arrivesOf b v1 st) st := by
  refine zz_of (cc := cX2_arrivesOf) (nL := 2) (ret := some .int) (by decide) rfl (Nat.le_of_ble_eq_true rfl) ?_
  intro p e s m args below meth c ls C hr hP hS hl
  obtain ⟨hx, hb, hml, hown, hts⟩ := id C.1
  have hl : lv_has ls 2 [(0, .ref (q o)), (1, .int v1)] := hl
  obtain ⟨r, hf⟩ : ∃ r, zX2_arrivesOf b v1 st = r := ⟨_, rfl⟩
  rw [hf]
  rw [zX2_arrivesOf] at hf
  skip
  refine lv_aload_n hx hb dX2_arrivesOf_0 rfl (lv_at hl 0 rfl) ?_
  refine zz_getf C zi_X2_arrivesOf_X2 hP o (zz_c_pa hz) rfl 0 (nm := "facts") (ds := "LThirteenthDay$Table;") (fin := true) rfl (by decide) zk_X2_arrivesOf_20 rfl dX2_arrivesOf_1 ?_
  refine lv_iload_n hx hb dX2_arrivesOf_4 rfl (lv_at hl 1 rfl) ?_
  refine lv_iconst (v := 0) hx hb dX2_arrivesOf_5 (by decide) ?_
  refine zz_callVi C (As := [.int v1, .int 0]) (rest := []) (zc_X5_get (b + 0) (zz_Plt hz (by decide)) _ _ _) (cwV 2 hts gX2_arrivesOf_X5_get rfl rfl rfl zd_X5_get ⟨Nat.le_of_ble_eq_true rfl, Nat.le_of_ble_eq_true rfl⟩) hP hS (9 + (b + 0)) (zz_c_tab (zz_Plt hz (by decide))) rfl rfl hl rfl (Nat.le_of_ble_eq_true rfl) dX2_arrivesOf_6 ⟨Nat.zero_le _, Nat.zero_le _⟩ (fun H locs hP hS => ?_)
  refine lv_aload_n hx hb dX2_arrivesOf_9 rfl (lv_at hl 0 rfl) ?_
  refine zz_getf C zi_X2_arrivesOf_X2 hP o (zz_c_pa hz) rfl 0 (nm := "facts") (ds := "LThirteenthDay$Table;") (fin := true) rfl (by decide) zk_X2_arrivesOf_20 rfl dX2_arrivesOf_10 ?_
  refine lv_iload_n hx hb dX2_arrivesOf_13 rfl (lv_at hl 1 rfl) ?_
  refine lv_iconst (v := 5) hx hb dX2_arrivesOf_14 (by decide) ?_
  refine zz_callVi C (As := [.int v1, .int 5]) (rest := [.int (zz_g (b + 0) v1 0 st)]) (zc_X5_get (b + 0) (zz_Plt hz (by decide)) _ _ _) (cwV 2 hts gX2_arrivesOf_X5_get rfl rfl rfl zd_X5_get ⟨Nat.le_of_ble_eq_true rfl, Nat.le_of_ble_eq_true rfl⟩) hP hS (9 + (b + 0)) (zz_c_tab (zz_Plt hz (by decide))) rfl rfl hl rfl (Nat.le_of_ble_eq_true rfl) dX2_arrivesOf_15 ⟨Nat.zero_le _, Nat.zero_le _⟩ (fun H locs hP hS => ?_)
  refine lv_iadd hx hb dX2_arrivesOf_18 ?_
  rw [← hf]
  exact zz_reti C hr hP hS dX2_arrivesOf_19
/-! X2_countAtRamps PR -/
theorem zd_X2_countAtRamps : yX2_countAtRamps.cls = RX2 ∧ yX2_countAtRamps.cls ≠ "java/lang/invoke/MethodHandle" ∧ yX2_countAtRamps.cls ≠ "java/lang/invoke/VarHandle" ∧ (parseMethodDescriptor yX2_countAtRamps.desc).map (fun d => d.parameters.length) = some 2 := by decide +kernel
abbrev zr_X2_countAtRamps : Room := { frames := 1, cells := 0, slots := 0, locals := 24 }
theorem zk_X2_countAtRamps_20 : Cond.fieldLink yX2_countAtRamps.cls 20 RX2 "facts" "LThirteenthDay$Table;" ∈ wsX2_countAtRamps := by decide +kernel
theorem zi_X2_countAtRamps_X2 : ∀ w ∈ u_ws RX2 TX2 5, w ∈ wsX2_countAtRamps := by decide +kernel
def zX2_countAtRamps_5 (b : Nat) : Nat → Int32 → Int32 → Int32 → Int32 → zz_T → Option Int32
  | 0, _, _, _, _, _ => none
  | n + 1, v1, v2, v3, v4, st =>
    if 54 ≤ v4 then
      some v3
    else
      zz_v (zz_g (b + 0) v4 0 st) fun w1 =>
      if w1 = (-1) then
        zX2_countAtRamps_5 b n v1 v2 v3 (v4 + 1) st
      else
        if (zz_g (b + 0) v4 3 st) = v1 then
          zz_v (w1 + (zz_g (b + 0) v4 5 st)) fun w2 =>
          if v2 ≤ w2 then
            zz_v (v3 + 0) fun w3 =>
            zX2_countAtRamps_5 b n v1 v2 w3 (v4 + 1) st
          else
            if (w2 + (zz_g (b + 0) v4 4 st)) < v2 then
              zz_v (v3 + 0) fun w4 =>
              zX2_countAtRamps_5 b n v1 v2 w4 (v4 + 1) st
            else
              zz_v (v3 + 1) fun w5 =>
              zX2_countAtRamps_5 b n v1 v2 w5 (v4 + 1) st
        else
          zX2_countAtRamps_5 b n v1 v2 v3 (v4 + 1) st
set_option maxHeartbeats 4000000 in
set_option maxRecDepth 100000 in
theorem zt_X2_countAtRamps_5 {l : Launch} {A : Nat → Prop} {D : va_G} {cI : ClassId} {q : Nat → Nat} {p : Program} {e : Env} {s : State} {m : MethodId} {args : Array Value} {below : List Frame} {meth : Method} {c : Code} (C : zz_C A D cI q p s m args meth c cX2_countAtRamps 7 wsX2_countAtRamps yX2_countAtRamps.cls) (hr : meth.sig.returnType = some .int) (o b : Nat) (hz : zz_P o b) : ∀ (n : Nat) (v1 : Int32) (v2 : Int32) (v3 : Int32) (v4 : Int32) (st : zz_T) (H : Heap) (locs : List Loc) (ls : Array Slot) (r : Int32), zX2_countAtRamps_5 b n v1 v2 v3 v4 st = some r → va_P D vwCl (zz_c q cI st) H → va_S A s.heap H locs → lv_has ls 7 [(0, .ref (q o)), (1, .int v1), (2, .int v2), (3, .int v3), (4, .int v4)] → W p l e zr_X2_countAtRamps s m args below meth c H locs 0 0 (zz_Qi A D cI q r st below args s) (F0 m 5 ls []) := by
  obtain ⟨hx, hb, hml, hown, hts⟩ := id C.1
  intro n
  induction n with
  | zero => intro v1 v2 v3 v4 st H locs ls r hf; cases hf
  | succ n ih =>
    intro v1 v2 v3 v4 st H locs ls r hf hP hS hl
    rw [zX2_countAtRamps_5] at hf
    refine lv_iload hx hb dX2_countAtRamps_5 (lv_at hl 4 rfl) ?_
    refine lv_bipush (v := 54) hx hb dX2_countAtRamps_7 (by decide) ?_
    refine lv_icmp_ge (tgt := 96) hx hb dX2_countAtRamps_9 (by decide) (fun h => ?_) (fun h => ?_)
    · rw [if_pos h] at hf
      refine lv_iload_n hx hb dX2_countAtRamps_96 rfl (lv_at hl 3 rfl) ?_
      rw [← (Option.some.inj hf)]
      exact zz_reti C hr hP hS dX2_countAtRamps_97
    · rw [if_neg h] at hf
      refine lv_aload_n hx hb dX2_countAtRamps_12 rfl (lv_at hl 0 rfl) ?_
      refine zz_getf C zi_X2_countAtRamps_X2 hP o (zz_c_pa hz) rfl 0 (nm := "facts") (ds := "LThirteenthDay$Table;") (fin := true) rfl (by decide) zk_X2_countAtRamps_20 rfl dX2_countAtRamps_13 ?_
      refine lv_iload hx hb dX2_countAtRamps_16 (lv_at hl 4 rfl) ?_
      refine lv_iconst (v := 0) hx hb dX2_countAtRamps_18 (by decide) ?_
      refine zz_callVi C (As := [.int v4, .int 0]) (rest := []) (zc_X5_get (b + 0) (zz_Plt hz (by decide)) _ _ _) (cwV 2 hts gX2_countAtRamps_X5_get rfl rfl rfl zd_X5_get ⟨Nat.le_of_ble_eq_true rfl, Nat.le_of_ble_eq_true rfl⟩) hP hS (9 + (b + 0)) (zz_c_tab (zz_Plt hz (by decide))) rfl rfl hl rfl (Nat.le_of_ble_eq_true rfl) dX2_countAtRamps_19 ⟨Nat.zero_le _, Nat.zero_le _⟩ (fun H locs hP hS => ?_)
      refine lv_topi (fun w1 e1 => ?_)
      replace hf := zz_vi hf e1
      refine lv_istore (lv' := [(5, .int w1), (0, .ref (q o)), (1, .int v1), (2, .int v2), (3, .int v3), (4, .int v4)]) hx hb dX2_countAtRamps_22 hl (by decide) rfl (fun ls hl => ?_)
      refine lv_iload hx hb dX2_countAtRamps_24 (lv_at hl 0 rfl) ?_
      refine lv_iconst (v := (-1)) hx hb dX2_countAtRamps_26 (by decide) ?_
      refine lv_icmp_eq (tgt := 90) hx hb dX2_countAtRamps_27 (by decide) (fun h => ?_) (fun h => ?_)
      · rw [if_pos h] at hf
        refine lv_iinc (v := (v4 + 1)) (lv' := [(4, .int (v4 + 1)), (5, .int w1), (0, .ref (q o)), (1, .int v1), (2, .int v2), (3, .int v3)]) hx hb dX2_countAtRamps_90 hl (k := 5) rfl (congrArg (fun z => v4 + z) (by decide)) (by decide) rfl (fun ls hl => ?_)
        refine lv_goto (tgt := 5) hx hb dX2_countAtRamps_93 (by decide) ?_
        exact ih _ _ _ _ _ _ _ _ _ hf hP hS (lv_sub hl [2, 3, 4, 5, 0] rfl)
      · rw [if_neg h] at hf
        refine lv_aload_n hx hb dX2_countAtRamps_30 rfl (lv_at hl 1 rfl) ?_
        refine zz_getf C zi_X2_countAtRamps_X2 hP o (zz_c_pa hz) rfl 0 (nm := "facts") (ds := "LThirteenthDay$Table;") (fin := true) rfl (by decide) zk_X2_countAtRamps_20 rfl dX2_countAtRamps_31 ?_
        refine lv_iload hx hb dX2_countAtRamps_34 (lv_at hl 5 rfl) ?_
        refine lv_iconst (v := 3) hx hb dX2_countAtRamps_36 (by decide) ?_
        refine zz_callVi C (As := [.int v4, .int 3]) (rest := []) (zc_X5_get (b + 0) (zz_Plt hz (by decide)) _ _ _) (cwV 2 hts gX2_countAtRamps_X5_get rfl rfl rfl zd_X5_get ⟨Nat.le_of_ble_eq_true rfl, Nat.le_of_ble_eq_true rfl⟩) hP hS (9 + (b + 0)) (zz_c_tab (zz_Plt hz (by decide))) rfl rfl hl rfl (Nat.le_of_ble_eq_true rfl) dX2_countAtRamps_37 ⟨Nat.zero_le _, Nat.zero_le _⟩ (fun H locs hP hS => ?_)
        refine lv_iload_n hx hb dX2_countAtRamps_40 rfl (lv_at hl 2 rfl) ?_
        refine lv_icmp_ne (tgt := 90) hx hb dX2_countAtRamps_41 (by decide) (fun h => ?_) (fun h => ?_)
        · rw [if_neg h] at hf
          refine lv_iinc (v := (v4 + 1)) (lv' := [(4, .int (v4 + 1)), (5, .int w1), (0, .ref (q o)), (1, .int v1), (2, .int v2), (3, .int v3)]) hx hb dX2_countAtRamps_90 hl (k := 5) rfl (congrArg (fun z => v4 + z) (by decide)) (by decide) rfl (fun ls hl => ?_)
          refine lv_goto (tgt := 5) hx hb dX2_countAtRamps_93 (by decide) ?_
          exact ih _ _ _ _ _ _ _ _ _ hf hP hS (lv_sub hl [2, 3, 4, 5, 0] rfl)
        · rw [if_pos h] at hf
          refine lv_iload hx hb dX2_countAtRamps_44 (lv_at hl 0 rfl) ?_
          refine lv_aload_n hx hb dX2_countAtRamps_46 rfl (lv_at hl 1 rfl) ?_
          refine zz_getf C zi_X2_countAtRamps_X2 hP o (zz_c_pa hz) rfl 0 (nm := "facts") (ds := "LThirteenthDay$Table;") (fin := true) rfl (by decide) zk_X2_countAtRamps_20 rfl dX2_countAtRamps_47 ?_
          refine lv_iload hx hb dX2_countAtRamps_50 (lv_at hl 5 rfl) ?_
          refine lv_iconst (v := 5) hx hb dX2_countAtRamps_52 (by decide) ?_
          refine zz_callVi C (As := [.int v4, .int 5]) (rest := [.int w1]) (zc_X5_get (b + 0) (zz_Plt hz (by decide)) _ _ _) (cwV 2 hts gX2_countAtRamps_X5_get rfl rfl rfl zd_X5_get ⟨Nat.le_of_ble_eq_true rfl, Nat.le_of_ble_eq_true rfl⟩) hP hS (9 + (b + 0)) (zz_c_tab (zz_Plt hz (by decide))) rfl rfl hl rfl (Nat.le_of_ble_eq_true rfl) dX2_countAtRamps_53 ⟨Nat.zero_le _, Nat.zero_le _⟩ (fun H locs hP hS => ?_)
          refine lv_iadd hx hb dX2_countAtRamps_56 ?_
          refine lv_topi (fun w2 e2 => ?_)
          replace hf := zz_vi hf e2
          refine lv_istore (lv' := [(6, .int w2), (5, .int w1), (0, .ref (q o)), (1, .int v1), (2, .int v2), (3, .int v3), (4, .int v4)]) hx hb dX2_countAtRamps_57 hl (by decide) rfl (fun ls hl => ?_)
          refine lv_iload_n hx hb dX2_countAtRamps_59 rfl (lv_at hl 5 rfl) ?_
          refine lv_iload_n hx hb dX2_countAtRamps_60 rfl (lv_at hl 4 rfl) ?_
          refine lv_iload hx hb dX2_countAtRamps_61 (lv_at hl 0 rfl) ?_
          refine lv_icmp_le (tgt := 87) hx hb dX2_countAtRamps_63 (by decide) (fun h => ?_) (fun h => ?_)
          · rw [if_pos h] at hf
            refine lv_iconst (v := 0) hx hb dX2_countAtRamps_87 (by decide) ?_
            refine lv_iadd hx hb dX2_countAtRamps_88 ?_
            refine lv_topi (fun w3 e3 => ?_)
            replace hf := zz_vi hf e3
            refine lv_istore_n (lv' := [(3, .int w3), (6, .int w2), (5, .int w1), (0, .ref (q o)), (1, .int v1), (2, .int v2), (4, .int v4)]) hx hb dX2_countAtRamps_89 rfl hl (by decide) rfl (fun ls hl => ?_)
            refine lv_iinc (v := (v4 + 1)) (lv' := [(4, .int (v4 + 1)), (3, .int w3), (6, .int w2), (5, .int w1), (0, .ref (q o)), (1, .int v1), (2, .int v2)]) hx hb dX2_countAtRamps_90 hl (k := 6) rfl (congrArg (fun z => v4 + z) (by decide)) (by decide) rfl (fun ls hl => ?_)
            refine lv_goto (tgt := 5) hx hb dX2_countAtRamps_93 (by decide) ?_
            exact ih _ _ _ _ _ _ _ _ _ hf hP hS (lv_sub hl [4, 5, 6, 1, 0] rfl)
          · rw [if_neg h] at hf
            refine lv_iload_n hx hb dX2_countAtRamps_66 rfl (lv_at hl 4 rfl) ?_
            refine lv_iload hx hb dX2_countAtRamps_67 (lv_at hl 0 rfl) ?_
            refine lv_aload_n hx hb dX2_countAtRamps_69 rfl (lv_at hl 2 rfl) ?_
            refine zz_getf C zi_X2_countAtRamps_X2 hP o (zz_c_pa hz) rfl 0 (nm := "facts") (ds := "LThirteenthDay$Table;") (fin := true) rfl (by decide) zk_X2_countAtRamps_20 rfl dX2_countAtRamps_70 ?_
            refine lv_iload hx hb dX2_countAtRamps_73 (lv_at hl 6 rfl) ?_
            refine lv_iconst (v := 4) hx hb dX2_countAtRamps_75 (by decide) ?_
            refine zz_callVi C (As := [.int v4, .int 4]) (rest := [.int w2, .int v2, .int v3]) (zc_X5_get (b + 0) (zz_Plt hz (by decide)) _ _ _) (cwV 2 hts gX2_countAtRamps_X5_get rfl rfl rfl zd_X5_get ⟨Nat.le_of_ble_eq_true rfl, Nat.le_of_ble_eq_true rfl⟩) hP hS (9 + (b + 0)) (zz_c_tab (zz_Plt hz (by decide))) rfl rfl hl rfl (Nat.le_of_ble_eq_true rfl) dX2_countAtRamps_76 ⟨Nat.zero_le _, Nat.zero_le _⟩ (fun H locs hP hS => ?_)
            refine lv_iadd hx hb dX2_countAtRamps_79 ?_
            refine lv_icmp_gt (tgt := 87) hx hb dX2_countAtRamps_80 (by decide) (fun h => ?_) (fun h => ?_)
            · rw [if_pos h] at hf
              refine lv_iconst (v := 0) hx hb dX2_countAtRamps_87 (by decide) ?_
              refine lv_iadd hx hb dX2_countAtRamps_88 ?_
              refine lv_topi (fun w4 e4 => ?_)
              replace hf := zz_vi hf e4
              refine lv_istore_n (lv' := [(3, .int w4), (6, .int w2), (5, .int w1), (0, .ref (q o)), (1, .int v1), (2, .int v2), (4, .int v4)]) hx hb dX2_countAtRamps_89 rfl hl (by decide) rfl (fun ls hl => ?_)
              refine lv_iinc (v := (v4 + 1)) (lv' := [(4, .int (v4 + 1)), (3, .int w4), (6, .int w2), (5, .int w1), (0, .ref (q o)), (1, .int v1), (2, .int v2)]) hx hb dX2_countAtRamps_90 hl (k := 6) rfl (congrArg (fun z => v4 + z) (by decide)) (by decide) rfl (fun ls hl => ?_)
              refine lv_goto (tgt := 5) hx hb dX2_countAtRamps_93 (by decide) ?_
              exact ih _ _ _ _ _ _ _ _ _ hf hP hS (lv_sub hl [4, 5, 6, 1, 0] rfl)
            · rw [if_neg h] at hf
              refine lv_iconst (v := 1) hx hb dX2_countAtRamps_83 (by decide) ?_
              refine lv_goto (tgt := 88) hx hb dX2_countAtRamps_84 (by decide) ?_
              refine lv_iadd hx hb dX2_countAtRamps_88 ?_
              refine lv_topi (fun w5 e5 => ?_)
              replace hf := zz_vi hf e5
              refine lv_istore_n (lv' := [(3, .int w5), (6, .int w2), (5, .int w1), (0, .ref (q o)), (1, .int v1), (2, .int v2), (4, .int v4)]) hx hb dX2_countAtRamps_89 rfl hl (by decide) rfl (fun ls hl => ?_)
              refine lv_iinc (v := (v4 + 1)) (lv' := [(4, .int (v4 + 1)), (3, .int w5), (6, .int w2), (5, .int w1), (0, .ref (q o)), (1, .int v1), (2, .int v2)]) hx hb dX2_countAtRamps_90 hl (k := 6) rfl (congrArg (fun z => v4 + z) (by decide)) (by decide) rfl (fun ls hl => ?_)
              refine lv_goto (tgt := 5) hx hb dX2_countAtRamps_93 (by decide) ?_
              exact ih _ _ _ _ _ _ _ _ _ hf hP hS (lv_sub hl [4, 5, 6, 1, 0] rfl)
def zX2_countAtRamps (b : Nat) (v1 : Int32) (v2 : Int32) (st : zz_T) : Option Int32 :=
  zX2_countAtRamps_5 b zz_N v1 v2 0 0 st
set_option maxHeartbeats 4000000 in
set_option maxRecDepth 100000 in
theorem zc_X2_countAtRamps {l : Launch} {A : Nat → Prop} {D : va_G} {cI : ClassId} {q : Nat → Nat} (o b : Nat) (hz : zz_P o b) (v1 : Int32) (v2 : Int32) (st : zz_T) (r : Int32) (hf : zX2_countAtRamps b v1 v2 st = some r) : zz_Mi l A D cI q yX2_countAtRamps wsX2_countAtRamps zr_X2_countAtRamps [.ref (q o), .int v1, .int v2] st r st := by
  refine zz_of (cc := cX2_countAtRamps) (nL := 7) (ret := some .int) (by decide) rfl (Nat.le_of_ble_eq_true rfl) ?_
  intro p e s m args below meth c ls C hr hP hS hl
  obtain ⟨hx, hb, hml, hown, hts⟩ := id C.1
  have hl : lv_has ls 7 [(0, .ref (q o)), (1, .int v1), (2, .int v2)] := hl
  rw [zX2_countAtRamps] at hf
  skip
  refine lv_iconst (v := 0) hx hb dX2_countAtRamps_0 (by decide) ?_
  refine lv_istore_n (lv' := [(3, .int 0), (0, .ref (q o)), (1, .int v1), (2, .int v2)]) hx hb dX2_countAtRamps_1 rfl hl (by decide) rfl (fun ls hl => ?_)
  refine lv_iconst (v := 0) hx hb dX2_countAtRamps_2 (by decide) ?_
  refine lv_istore (lv' := [(4, .int 0), (3, .int 0), (0, .ref (q o)), (1, .int v1), (2, .int v2)]) hx hb dX2_countAtRamps_3 hl (by decide) rfl (fun ls hl => ?_)
  exact zt_X2_countAtRamps_5 C hr o b hz zz_N _ _ _ _ _ _ _ _ _ hf hP hS (lv_sub hl [2, 3, 4, 1, 0] rfl)
/-! X2_foulsAtRamps PR -/
theorem zd_X2_foulsAtRamps : yX2_foulsAtRamps.cls = RX2 ∧ yX2_foulsAtRamps.cls ≠ "java/lang/invoke/MethodHandle" ∧ yX2_foulsAtRamps.cls ≠ "java/lang/invoke/VarHandle" ∧ (parseMethodDescriptor yX2_foulsAtRamps.desc).map (fun d => d.parameters.length) = some 1 := by decide +kernel
abbrev zr_X2_foulsAtRamps : Room := { frames := 2, cells := 0, slots := 0, locals := 50 }
theorem zk_X2_foulsAtRamps_20 : Cond.fieldLink yX2_foulsAtRamps.cls 20 RX2 "facts" "LThirteenthDay$Table;" ∈ wsX2_foulsAtRamps := by decide +kernel
theorem zi_X2_foulsAtRamps_X2 : ∀ w ∈ u_ws RX2 TX2 5, w ∈ wsX2_foulsAtRamps := by decide +kernel
def zX2_foulsAtRamps_10 (b : Nat) : Nat → Int32 → Int32 → Int32 → zz_T → Option Bool
  | 0, _, _, _, _ => none
  | n + 1, v1, v2, v3, st =>
    if (v2 + (zz_g (b + 0) v1 4 st)) ≤ v3 then
      some false
    else
      (zX2_countAtRamps b (zz_g (b + 0) v1 3 st) v3 st).bind fun x2 =>
      if x2 ≤ (zz_g (b + 0) v1 6 st) then
        zX2_foulsAtRamps_10 b n v1 v2 (v3 + 1) st
      else
        some true
set_option maxHeartbeats 4000000 in
set_option maxRecDepth 100000 in
theorem zt_X2_foulsAtRamps_10 {l : Launch} {A : Nat → Prop} {D : va_G} {cI : ClassId} {q : Nat → Nat} {p : Program} {e : Env} {s : State} {m : MethodId} {args : Array Value} {below : List Frame} {meth : Method} {c : Code} (C : zz_C A D cI q p s m args meth c cX2_foulsAtRamps 4 wsX2_foulsAtRamps yX2_foulsAtRamps.cls) (hr : meth.sig.returnType = some .boolean) (o b : Nat) (hz : zz_P o b) : ∀ (n : Nat) (v1 : Int32) (v2 : Int32) (v3 : Int32) (st : zz_T) (H : Heap) (locs : List Loc) (ls : Array Slot) (r : Bool), zX2_foulsAtRamps_10 b n v1 v2 v3 st = some r → va_P D vwCl (zz_c q cI st) H → va_S A s.heap H locs → lv_has ls 4 [(0, .ref (q o)), (1, .int v1), (2, .int v2), (3, .int v3)] → W p l e zr_X2_foulsAtRamps s m args below meth c H locs 0 0 (zz_Qi A D cI q (zz_b r) st below args s) (F0 m 10 ls []) := by
  obtain ⟨hx, hb, hml, hown, hts⟩ := id C.1
  intro n
  induction n with
  | zero => intro v1 v2 v3 st H locs ls r hf; cases hf
  | succ n ih =>
    intro v1 v2 v3 st H locs ls r hf hP hS hl
    rw [zX2_foulsAtRamps_10] at hf
    refine lv_iload_n hx hb dX2_foulsAtRamps_10 rfl (lv_at hl 3 rfl) ?_
    refine lv_iload_n hx hb dX2_foulsAtRamps_11 rfl (lv_at hl 2 rfl) ?_
    refine lv_aload_n hx hb dX2_foulsAtRamps_12 rfl (lv_at hl 0 rfl) ?_
    refine zz_getf C zi_X2_foulsAtRamps_X2 hP o (zz_c_pa hz) rfl 0 (nm := "facts") (ds := "LThirteenthDay$Table;") (fin := true) rfl (by decide) zk_X2_foulsAtRamps_20 rfl dX2_foulsAtRamps_13 ?_
    refine lv_iload_n hx hb dX2_foulsAtRamps_16 rfl (lv_at hl 1 rfl) ?_
    refine lv_iconst (v := 4) hx hb dX2_foulsAtRamps_17 (by decide) ?_
    refine zz_callVi C (As := [.int v1, .int 4]) (rest := [.int v2, .int v3]) (zc_X5_get (b + 0) (zz_Plt hz (by decide)) _ _ _) (cwV 2 hts gX2_foulsAtRamps_X5_get rfl rfl rfl zd_X5_get ⟨Nat.le_of_ble_eq_true rfl, Nat.le_of_ble_eq_true rfl⟩) hP hS (9 + (b + 0)) (zz_c_tab (zz_Plt hz (by decide))) rfl rfl hl rfl (Nat.le_of_ble_eq_true rfl) dX2_foulsAtRamps_18 ⟨Nat.zero_le _, Nat.zero_le _⟩ (fun H locs hP hS => ?_)
    refine lv_iadd hx hb dX2_foulsAtRamps_21 ?_
    refine lv_icmp_ge (tgt := 60) hx hb dX2_foulsAtRamps_22 (by decide) (fun h => ?_) (fun h => ?_)
    · rw [if_pos h] at hf
      refine lv_iconst (v := 0) hx hb dX2_foulsAtRamps_60 (by decide) ?_
      rw [← (Option.some.inj hf)]
      exact zz_retz (v := false) C hr hP hS dX2_foulsAtRamps_61
    · rw [if_neg h] at hf
      refine lv_aload_n hx hb dX2_foulsAtRamps_25 rfl (lv_at hl 0 rfl) ?_
      refine lv_aload_n hx hb dX2_foulsAtRamps_26 rfl (lv_at hl 0 rfl) ?_
      refine zz_getf C zi_X2_foulsAtRamps_X2 hP o (zz_c_pa hz) rfl 0 (nm := "facts") (ds := "LThirteenthDay$Table;") (fin := true) rfl (by decide) zk_X2_foulsAtRamps_20 rfl dX2_foulsAtRamps_27 ?_
      refine lv_iload_n hx hb dX2_foulsAtRamps_30 rfl (lv_at hl 1 rfl) ?_
      refine lv_iconst (v := 3) hx hb dX2_foulsAtRamps_31 (by decide) ?_
      refine zz_callVi C (As := [.int v1, .int 3]) (rest := [.ref (q o)]) (zc_X5_get (b + 0) (zz_Plt hz (by decide)) _ _ _) (cwV 2 hts gX2_foulsAtRamps_X5_get rfl rfl rfl zd_X5_get ⟨Nat.le_of_ble_eq_true rfl, Nat.le_of_ble_eq_true rfl⟩) hP hS (9 + (b + 0)) (zz_c_tab (zz_Plt hz (by decide))) rfl rfl hl rfl (Nat.le_of_ble_eq_true rfl) dX2_foulsAtRamps_32 ⟨Nat.zero_le _, Nat.zero_le _⟩ (fun H locs hP hS => ?_)
      refine lv_iload_n hx hb dX2_foulsAtRamps_35 rfl (lv_at hl 3 rfl) ?_
      obtain ⟨x2, e3, hf⟩ := zz_bo hf
      refine zz_callVi C (As := [.int (zz_g (b + 0) v1 3 st), .int v3]) (rest := []) (zc_X2_countAtRamps o b hz _ _ _ _ e3) (cwV 2 hts gX2_foulsAtRamps_X2_countAtRamps rfl rfl rfl zd_X2_countAtRamps ⟨Nat.le_of_ble_eq_true rfl, Nat.le_of_ble_eq_true rfl⟩) hP hS o (zz_c_pa hz) rfl rfl hl rfl (Nat.le_of_ble_eq_true rfl) dX2_foulsAtRamps_36 ⟨Nat.zero_le _, Nat.zero_le _⟩ (fun H locs hP hS => ?_)
      refine lv_aload_n hx hb dX2_foulsAtRamps_39 rfl (lv_at hl 0 rfl) ?_
      refine zz_getf C zi_X2_foulsAtRamps_X2 hP o (zz_c_pa hz) rfl 0 (nm := "facts") (ds := "LThirteenthDay$Table;") (fin := true) rfl (by decide) zk_X2_foulsAtRamps_20 rfl dX2_foulsAtRamps_40 ?_
      refine lv_iload_n hx hb dX2_foulsAtRamps_43 rfl (lv_at hl 1 rfl) ?_
      refine lv_bipush (v := 6) hx hb dX2_foulsAtRamps_44 (by decide) ?_
      refine zz_callVi C (As := [.int v1, .int 6]) (rest := [.int x2]) (zc_X5_get (b + 0) (zz_Plt hz (by decide)) _ _ _) (cwV 2 hts gX2_foulsAtRamps_X5_get rfl rfl rfl zd_X5_get ⟨Nat.le_of_ble_eq_true rfl, Nat.le_of_ble_eq_true rfl⟩) hP hS (9 + (b + 0)) (zz_c_tab (zz_Plt hz (by decide))) rfl rfl hl rfl (Nat.le_of_ble_eq_true rfl) dX2_foulsAtRamps_46 ⟨Nat.zero_le _, Nat.zero_le _⟩ (fun H locs hP hS => ?_)
      refine lv_icmp_le (tgt := 54) hx hb dX2_foulsAtRamps_49 (by decide) (fun h => ?_) (fun h => ?_)
      · rw [if_pos h] at hf
        refine lv_iinc (v := (v3 + 1)) (lv' := [(3, .int (v3 + 1)), (0, .ref (q o)), (1, .int v1), (2, .int v2)]) hx hb dX2_foulsAtRamps_54 hl (k := 3) rfl (congrArg (fun z => v3 + z) (by decide)) (by decide) rfl (fun ls hl => ?_)
        refine lv_goto (tgt := 10) hx hb dX2_foulsAtRamps_57 (by decide) ?_
        exact ih _ _ _ _ _ _ _ _ hf hP hS (lv_sub hl [1, 2, 3, 0] rfl)
      · rw [if_neg h] at hf
        refine lv_iconst (v := 1) hx hb dX2_foulsAtRamps_52 (by decide) ?_
        rw [← (Option.some.inj hf)]
        exact zz_retz (v := true) C hr hP hS dX2_foulsAtRamps_53
def zX2_foulsAtRamps (b : Nat) (v1 : Int32) (st : zz_T) : Option Bool :=
  zz_v ((zX2_arrivesOf b v1 st) + 1) fun w1 =>
  zX2_foulsAtRamps_10 b zz_N v1 w1 w1 st
set_option maxHeartbeats 4000000 in
set_option maxRecDepth 100000 in
theorem zc_X2_foulsAtRamps {l : Launch} {A : Nat → Prop} {D : va_G} {cI : ClassId} {q : Nat → Nat} (o b : Nat) (hz : zz_P o b) (v1 : Int32) (st : zz_T) (r : Bool) (hf : zX2_foulsAtRamps b v1 st = some r) : zz_Mi l A D cI q yX2_foulsAtRamps wsX2_foulsAtRamps zr_X2_foulsAtRamps [.ref (q o), .int v1] st (zz_b r) st := by
  refine zz_of (cc := cX2_foulsAtRamps) (nL := 4) (ret := some .boolean) (by decide) rfl (Nat.le_of_ble_eq_true rfl) ?_
  intro p e s m args below meth c ls C hr hP hS hl
  obtain ⟨hx, hb, hml, hown, hts⟩ := id C.1
  have hl : lv_has ls 4 [(0, .ref (q o)), (1, .int v1)] := hl
  rw [zX2_foulsAtRamps] at hf
  skip
  refine lv_aload_n hx hb dX2_foulsAtRamps_0 rfl (lv_at hl 0 rfl) ?_
  refine lv_iload_n hx hb dX2_foulsAtRamps_1 rfl (lv_at hl 1 rfl) ?_
  refine zz_callVi C (As := [.int v1]) (rest := []) (zc_X2_arrivesOf o b hz _ _) (cwV 1 hts gX2_foulsAtRamps_X2_arrivesOf rfl rfl rfl zd_X2_arrivesOf ⟨Nat.le_of_ble_eq_true rfl, Nat.le_of_ble_eq_true rfl⟩) hP hS o (zz_c_pa hz) rfl rfl hl rfl (Nat.le_of_ble_eq_true rfl) dX2_foulsAtRamps_2 ⟨Nat.zero_le _, Nat.zero_le _⟩ (fun H locs hP hS => ?_)
  refine lv_iconst (v := 1) hx hb dX2_foulsAtRamps_5 (by decide) ?_
  refine lv_iadd hx hb dX2_foulsAtRamps_6 ?_
  refine lv_topi (fun w1 e1 => ?_)
  replace hf := zz_vi hf e1
  refine lv_istore_n (lv' := [(2, .int w1), (0, .ref (q o)), (1, .int v1)]) hx hb dX2_foulsAtRamps_7 rfl hl (by decide) rfl (fun ls hl => ?_)
  refine lv_iload_n hx hb dX2_foulsAtRamps_8 rfl (lv_at hl 0 rfl) ?_
  refine lv_istore_n (lv' := [(3, .int w1), (2, .int w1), (0, .ref (q o)), (1, .int v1)]) hx hb dX2_foulsAtRamps_9 rfl hl (by decide) rfl (fun ls hl => ?_)
  exact zt_X2_foulsAtRamps_10 C hr o b hz zz_N _ _ _ _ _ _ _ _ hf hP hS (lv_sub hl [2, 3, 1, 0] rfl)
/-! X2_findStart PW -/
theorem zd_X2_findStart : yX2_findStart.cls = RX2 ∧ yX2_findStart.cls ≠ "java/lang/invoke/MethodHandle" ∧ yX2_findStart.cls ≠ "java/lang/invoke/VarHandle" ∧ (parseMethodDescriptor yX2_findStart.desc).map (fun d => d.parameters.length) = some 3 := by decide +kernel
abbrev zr_X2_findStart : Room := { frames := 3, cells := 0, slots := 0, locals := 76 }
theorem zk_X2_findStart_20 : Cond.fieldLink yX2_findStart.cls 20 RX2 "facts" "LThirteenthDay$Table;" ∈ wsX2_findStart := by decide +kernel
theorem zi_X2_findStart_X2 : ∀ w ∈ u_ws RX2 TX2 5, w ∈ wsX2_findStart := by decide +kernel
def zX2_findStart_3 (b : Nat) : Nat → Int32 → Int32 → Int32 → zz_T → Option (Int32 × zz_T)
  | 0, _, _, _, _ => none
  | n + 1, v1, v3, v4, st =>
    if (v3 + 1) ≤ v4 then
      zz_v (zz_set (b + 0) v1 0 v3 st) fun st1 =>
      (zX2_firstFouledLine b v1 st1).bind fun x3 =>
      zz_v (zz_set (b + 0) v1 0 (-1) st1) fun st5 =>
      if x3 = (-1) then
        some ((-3), st5)
      else
        some (((-10) - x3), st5)
    else
      zz_v (zz_set (b + 0) v1 0 v4 st) fun st7 =>
      (zX2_firstFouledLine b v1 st7).bind fun x9 =>
      if x9 = (-1) then
        (zX2_foulsAtRamps b v1 st7).bind fun x11 =>
        if x11 = true then
          zX2_findStart_3 b n v1 v3 (v4 + 1) st7
        else
          some (v4, st7)
      else
        zX2_findStart_3 b n v1 v3 (v4 + 1) st7
set_option maxHeartbeats 4000000 in
set_option maxRecDepth 100000 in
theorem zt_X2_findStart_3 {l : Launch} {A : Nat → Prop} {D : va_G} {cI : ClassId} {q : Nat → Nat} {p : Program} {e : Env} {s : State} {m : MethodId} {args : Array Value} {below : List Frame} {meth : Method} {c : Code} (C : zz_C A D cI q p s m args meth c cX2_findStart 5 wsX2_findStart yX2_findStart.cls) (hr : meth.sig.returnType = some .int) (o b : Nat) (hz : zz_P o b) : ∀ (n : Nat) (v1 : Int32) (v3 : Int32) (v4 : Int32) (st : zz_T) (H : Heap) (locs : List Loc) (ls : Array Slot) (r : (Int32 × zz_T)), zX2_findStart_3 b n v1 v3 v4 st = some r → va_P D vwCl (zz_c q cI st) H → va_S A s.heap H locs → lv_has ls 5 [(0, .ref (q o)), (1, .int v1), (3, .int v3), (4, .int v4)] → W p l e zr_X2_findStart s m args below meth c H locs 0 0 (zz_Qi A D cI q r.1 r.2 below args s) (F0 m 3 ls []) := by
  obtain ⟨hx, hb, hml, hown, hts⟩ := id C.1
  intro n
  induction n with
  | zero => intro v1 v3 v4 st H locs ls r hf; cases hf
  | succ n ih =>
    intro v1 v3 v4 st H locs ls r hf hP hS hl
    rw [zX2_findStart_3] at hf
    refine lv_iload hx hb dX2_findStart_3 (lv_at hl 3 rfl) ?_
    refine lv_iload_n hx hb dX2_findStart_5 rfl (lv_at hl 2 rfl) ?_
    refine lv_iconst (v := 1) hx hb dX2_findStart_6 (by decide) ?_
    refine lv_iadd hx hb dX2_findStart_7 ?_
    refine lv_icmp_ge (tgt := 48) hx hb dX2_findStart_8 (by decide) (fun h => ?_) (fun h => ?_)
    · rw [if_pos h] at hf
      refine lv_aload_n hx hb dX2_findStart_48 rfl (lv_at hl 0 rfl) ?_
      refine zz_getf C zi_X2_findStart_X2 hP o (zz_c_pa hz) rfl 0 (nm := "facts") (ds := "LThirteenthDay$Table;") (fin := true) rfl (by decide) zk_X2_findStart_20 rfl dX2_findStart_49 ?_
      refine lv_iload_n hx hb dX2_findStart_52 rfl (lv_at hl 1 rfl) ?_
      refine lv_iconst (v := 0) hx hb dX2_findStart_53 (by decide) ?_
      refine lv_iload_n hx hb dX2_findStart_54 rfl (lv_at hl 2 rfl) ?_
      obtain ⟨st1, e2, hf⟩ := zz_vo hf
      refine zz_callVv C (As := [.int v1, .int 0, .int v3]) (rest := []) (zz_Mv_e e2 (zc_X5_set (b + 0) (zz_Plt hz (by decide)) _ _ _ _)) (cwV 3 hts gX2_findStart_X5_set rfl rfl rfl zd_X5_set ⟨Nat.le_of_ble_eq_true rfl, Nat.le_of_ble_eq_true rfl⟩) hP hS (9 + (b + 0)) (zz_c_tab (zz_Plt hz (by decide))) rfl rfl hl rfl (Nat.le_of_ble_eq_true rfl) dX2_findStart_55 ⟨Nat.zero_le _, Nat.zero_le _⟩ (fun H locs hP hS => ?_)
      refine lv_aload_n hx hb dX2_findStart_58 rfl (lv_at hl 0 rfl) ?_
      refine lv_iload_n hx hb dX2_findStart_59 rfl (lv_at hl 1 rfl) ?_
      obtain ⟨x3, e4, hf⟩ := zz_bo hf
      refine zz_callVi C (As := [.int v1]) (rest := []) (zc_X2_firstFouledLine o b hz _ _ _ e4) (cwV 1 hts gX2_findStart_X2_firstFouledLine rfl rfl rfl zd_X2_firstFouledLine ⟨Nat.le_of_ble_eq_true rfl, Nat.le_of_ble_eq_true rfl⟩) hP hS o (zz_c_pa hz) rfl rfl hl rfl (Nat.le_of_ble_eq_true rfl) dX2_findStart_60 ⟨Nat.zero_le _, Nat.zero_le _⟩ (fun H locs hP hS => ?_)
      refine lv_istore (lv' := [(4, .int x3), (0, .ref (q o)), (1, .int v1), (3, .int v3)]) hx hb dX2_findStart_63 hl (by decide) rfl (fun ls hl => ?_)
      refine lv_aload_n hx hb dX2_findStart_65 rfl (lv_at hl 1 rfl) ?_
      refine zz_getf C zi_X2_findStart_X2 hP o (zz_c_pa hz) rfl 0 (nm := "facts") (ds := "LThirteenthDay$Table;") (fin := true) rfl (by decide) zk_X2_findStart_20 rfl dX2_findStart_66 ?_
      refine lv_iload_n hx hb dX2_findStart_69 rfl (lv_at hl 2 rfl) ?_
      refine lv_iconst (v := 0) hx hb dX2_findStart_70 (by decide) ?_
      refine lv_iconst (v := (-1)) hx hb dX2_findStart_71 (by decide) ?_
      obtain ⟨st5, e6, hf⟩ := zz_vo hf
      refine zz_callVv C (As := [.int v1, .int 0, .int (-1)]) (rest := []) (zz_Mv_e e6 (zc_X5_set (b + 0) (zz_Plt hz (by decide)) _ _ _ _)) (cwV 3 hts gX2_findStart_X5_set rfl rfl rfl zd_X5_set ⟨Nat.le_of_ble_eq_true rfl, Nat.le_of_ble_eq_true rfl⟩) hP hS (9 + (b + 0)) (zz_c_tab (zz_Plt hz (by decide))) rfl rfl hl rfl (Nat.le_of_ble_eq_true rfl) dX2_findStart_72 ⟨Nat.zero_le _, Nat.zero_le _⟩ (fun H locs hP hS => ?_)
      refine lv_iload hx hb dX2_findStart_75 (lv_at hl 0 rfl) ?_
      refine lv_iconst (v := (-1)) hx hb dX2_findStart_77 (by decide) ?_
      refine lv_icmp_ne (tgt := 86) hx hb dX2_findStart_78 (by decide) (fun h => ?_) (fun h => ?_)
      · rw [if_neg h] at hf
        refine lv_bipush (v := (-10)) hx hb dX2_findStart_86 (by decide) ?_
        refine lv_iload hx hb dX2_findStart_88 (lv_at hl 0 rfl) ?_
        refine lv_isub hx hb dX2_findStart_90 ?_
        rw [← (Option.some.inj hf)]
        exact zz_reti C hr hP hS dX2_findStart_91
      · rw [if_pos h] at hf
        refine lv_bipush (v := (-3)) hx hb dX2_findStart_81 (by decide) ?_
        refine lv_goto (tgt := 91) hx hb dX2_findStart_83 (by decide) ?_
        rw [← (Option.some.inj hf)]
        exact zz_reti C hr hP hS dX2_findStart_91
    · rw [if_neg h] at hf
      refine lv_aload_n hx hb dX2_findStart_11 rfl (lv_at hl 0 rfl) ?_
      refine zz_getf C zi_X2_findStart_X2 hP o (zz_c_pa hz) rfl 0 (nm := "facts") (ds := "LThirteenthDay$Table;") (fin := true) rfl (by decide) zk_X2_findStart_20 rfl dX2_findStart_12 ?_
      refine lv_iload_n hx hb dX2_findStart_15 rfl (lv_at hl 1 rfl) ?_
      refine lv_iconst (v := 0) hx hb dX2_findStart_16 (by decide) ?_
      refine lv_iload hx hb dX2_findStart_17 (lv_at hl 3 rfl) ?_
      obtain ⟨st7, e8, hf⟩ := zz_vo hf
      refine zz_callVv C (As := [.int v1, .int 0, .int v4]) (rest := []) (zz_Mv_e e8 (zc_X5_set (b + 0) (zz_Plt hz (by decide)) _ _ _ _)) (cwV 3 hts gX2_findStart_X5_set rfl rfl rfl zd_X5_set ⟨Nat.le_of_ble_eq_true rfl, Nat.le_of_ble_eq_true rfl⟩) hP hS (9 + (b + 0)) (zz_c_tab (zz_Plt hz (by decide))) rfl rfl hl rfl (Nat.le_of_ble_eq_true rfl) dX2_findStart_19 ⟨Nat.zero_le _, Nat.zero_le _⟩ (fun H locs hP hS => ?_)
      refine lv_aload_n hx hb dX2_findStart_22 rfl (lv_at hl 0 rfl) ?_
      refine lv_iload_n hx hb dX2_findStart_23 rfl (lv_at hl 1 rfl) ?_
      obtain ⟨x9, e10, hf⟩ := zz_bo hf
      refine zz_callVi C (As := [.int v1]) (rest := []) (zc_X2_firstFouledLine o b hz _ _ _ e10) (cwV 1 hts gX2_findStart_X2_firstFouledLine rfl rfl rfl zd_X2_firstFouledLine ⟨Nat.le_of_ble_eq_true rfl, Nat.le_of_ble_eq_true rfl⟩) hP hS o (zz_c_pa hz) rfl rfl hl rfl (Nat.le_of_ble_eq_true rfl) dX2_findStart_24 ⟨Nat.zero_le _, Nat.zero_le _⟩ (fun H locs hP hS => ?_)
      refine lv_iconst (v := (-1)) hx hb dX2_findStart_27 (by decide) ?_
      refine lv_icmp_ne (tgt := 42) hx hb dX2_findStart_28 (by decide) (fun h => ?_) (fun h => ?_)
      · rw [if_neg h] at hf
        refine lv_iinc (v := (v4 + 1)) (lv' := [(4, .int (v4 + 1)), (0, .ref (q o)), (1, .int v1), (3, .int v3)]) hx hb dX2_findStart_42 hl (k := 3) rfl (congrArg (fun z => v4 + z) (by decide)) (by decide) rfl (fun ls hl => ?_)
        refine lv_goto (tgt := 3) hx hb dX2_findStart_45 (by decide) ?_
        exact ih _ _ _ _ _ _ _ _ hf hP hS (lv_sub hl [1, 2, 3, 0] rfl)
      · rw [if_pos h] at hf
        refine lv_aload_n hx hb dX2_findStart_31 rfl (lv_at hl 0 rfl) ?_
        refine lv_iload_n hx hb dX2_findStart_32 rfl (lv_at hl 1 rfl) ?_
        obtain ⟨x11, e12, hf⟩ := zz_bo hf
        refine zz_callVi C (As := [.int v1]) (rest := []) (zc_X2_foulsAtRamps o b hz _ _ _ e12) (cwV 1 hts gX2_findStart_X2_foulsAtRamps rfl rfl rfl zd_X2_foulsAtRamps ⟨Nat.le_of_ble_eq_true rfl, Nat.le_of_ble_eq_true rfl⟩) hP hS o (zz_c_pa hz) rfl rfl hl rfl (Nat.le_of_ble_eq_true rfl) dX2_findStart_33 ⟨Nat.zero_le _, Nat.zero_le _⟩ (fun H locs hP hS => ?_)
        refine lv_if_ne (tgt := 42) hx hb dX2_findStart_36 (by decide) (fun h => ?_) (fun h => ?_)
        · rw [zz_if1 (zz_b1 h)] at hf
          refine lv_iinc (v := (v4 + 1)) (lv' := [(4, .int (v4 + 1)), (0, .ref (q o)), (1, .int v1), (3, .int v3)]) hx hb dX2_findStart_42 hl (k := 3) rfl (congrArg (fun z => v4 + z) (by decide)) (by decide) rfl (fun ls hl => ?_)
          refine lv_goto (tgt := 3) hx hb dX2_findStart_45 (by decide) ?_
          exact ih _ _ _ _ _ _ _ _ hf hP hS (lv_sub hl [1, 2, 3, 0] rfl)
        · rw [zz_if0 (zz_b0 h)] at hf
          refine lv_iload hx hb dX2_findStart_39 (lv_at hl 3 rfl) ?_
          rw [← (Option.some.inj hf)]
          exact zz_reti C hr hP hS dX2_findStart_41
def zX2_findStart (b : Nat) (v1 : Int32) (v2 : Int32) (v3 : Int32) (st : zz_T) : Option (Int32 × zz_T) :=
  zX2_findStart_3 b zz_N v1 v3 v2 st
set_option maxHeartbeats 4000000 in
set_option maxRecDepth 100000 in
theorem zc_X2_findStart {l : Launch} {A : Nat → Prop} {D : va_G} {cI : ClassId} {q : Nat → Nat} (o b : Nat) (hz : zz_P o b) (v1 : Int32) (v2 : Int32) (v3 : Int32) (st : zz_T) (r : (Int32 × zz_T)) (hf : zX2_findStart b v1 v2 v3 st = some r) : zz_Mi l A D cI q yX2_findStart wsX2_findStart zr_X2_findStart [.ref (q o), .int v1, .int v2, .int v3] st r.1 r.2 := by
  refine zz_of (cc := cX2_findStart) (nL := 5) (ret := some .int) (by decide) rfl (Nat.le_of_ble_eq_true rfl) ?_
  intro p e s m args below meth c ls C hr hP hS hl
  obtain ⟨hx, hb, hml, hown, hts⟩ := id C.1
  have hl : lv_has ls 5 [(0, .ref (q o)), (1, .int v1), (2, .int v2), (3, .int v3)] := hl
  rw [zX2_findStart] at hf
  skip
  refine lv_iload_n hx hb dX2_findStart_0 rfl (lv_at hl 2 rfl) ?_
  refine lv_istore (lv' := [(4, .int v2), (0, .ref (q o)), (1, .int v1), (2, .int v2), (3, .int v3)]) hx hb dX2_findStart_1 hl (by decide) rfl (fun ls hl => ?_)
  exact zt_X2_findStart_3 C hr o b hz zz_N _ _ _ _ _ _ _ _ hf hP hS (lv_sub hl [1, 2, 4, 0] rfl)
/-! X1_endOf TR -/
theorem zd_X1_endOf : yX1_endOf.cls = RX1 ∧ yX1_endOf.cls ≠ "java/lang/invoke/MethodHandle" ∧ yX1_endOf.cls ≠ "java/lang/invoke/VarHandle" ∧ (parseMethodDescriptor yX1_endOf.desc).map (fun d => d.parameters.length) = some 2 := by decide +kernel
abbrev zr_X1_endOf : Room := { frames := 1, cells := 0, slots := 0, locals := 24 }
theorem zk_X1_endOf_20 : Cond.fieldLink yX1_endOf.cls 20 RX1 "lines" "LThirteenthDay$Table;" ∈ wsX1_endOf := by decide +kernel
theorem zi_X1_endOf_X1 : ∀ w ∈ u_ws RX1 TX1 6, w ∈ wsX1_endOf := by decide +kernel
def zX1_endOf (v1 : Int32) (v2 : Bool) (st : zz_T) : Int32 :=
  if v2 = true then
    (zz_g 1 v1 1 st)
  else
    (zz_g 1 v1 0 st)
set_option maxHeartbeats 4000000 in
set_option maxRecDepth 100000 in
theorem zc_X1_endOf {l : Launch} {A : Nat → Prop} {D : va_G} {cI : ClassId} {q : Nat → Nat} (v1 : Int32) (v2 : Bool) (st : zz_T) : zz_Mi l A D cI q yX1_endOf wsX1_endOf zr_X1_endOf [.ref (q 1), .int v1, .int (zz_b v2)] st (zX1_endOf v1 v2 st) st := by
  refine zz_of (cc := cX1_endOf) (nL := 3) (ret := some .int) (by decide) rfl (Nat.le_of_ble_eq_true rfl) ?_
  intro p e s m args below meth c ls C hr hP hS hl
  obtain ⟨hx, hb, hml, hown, hts⟩ := id C.1
  have hl : lv_has ls 3 [(0, .ref (q 1)), (1, .int v1), (2, .int (zz_b v2))] := hl
  obtain ⟨r, hf⟩ : ∃ r, zX1_endOf v1 v2 st = r := ⟨_, rfl⟩
  rw [hf]
  rw [zX1_endOf] at hf
  skip
  refine lv_aload_n hx hb dX1_endOf_0 rfl (lv_at hl 0 rfl) ?_
  refine zz_getf C zi_X1_endOf_X1 hP 1 rfl rfl 1 (nm := "lines") (ds := "LThirteenthDay$Table;") (fin := true) rfl (by decide) zk_X1_endOf_20 rfl dX1_endOf_1 ?_
  refine lv_iload_n hx hb dX1_endOf_4 rfl (lv_at hl 1 rfl) ?_
  refine lv_iload_n hx hb dX1_endOf_5 rfl (lv_at hl 2 rfl) ?_
  refine lv_if_eq (tgt := 13) hx hb dX1_endOf_6 (by decide) (fun h => ?_) (fun h => ?_)
  · rw [zz_if0 (zz_b0 h)] at hf
    refine lv_iconst (v := 0) hx hb dX1_endOf_13 (by decide) ?_
    refine zz_callVi C (As := [.int v1, .int 0]) (rest := []) (zc_X5_get 1 (by decide) _ _ _) (cwV 2 hts gX1_endOf_X5_get rfl rfl rfl zd_X5_get ⟨Nat.le_of_ble_eq_true rfl, Nat.le_of_ble_eq_true rfl⟩) hP hS (9 + 1) (zz_c_tab (by decide)) rfl rfl hl rfl (Nat.le_of_ble_eq_true rfl) dX1_endOf_14 ⟨Nat.zero_le _, Nat.zero_le _⟩ (fun H locs hP hS => ?_)
    rw [← hf]
    exact zz_reti C hr hP hS dX1_endOf_17
  · rw [zz_if1 (zz_b1 h)] at hf
    refine lv_iconst (v := 1) hx hb dX1_endOf_9 (by decide) ?_
    refine lv_goto (tgt := 14) hx hb dX1_endOf_10 (by decide) ?_
    refine zz_callVi C (As := [.int v1, .int 1]) (rest := []) (zc_X5_get 1 (by decide) _ _ _) (cwV 2 hts gX1_endOf_X5_get rfl rfl rfl zd_X5_get ⟨Nat.le_of_ble_eq_true rfl, Nat.le_of_ble_eq_true rfl⟩) hP hS (9 + 1) (zz_c_tab (by decide)) rfl rfl hl rfl (Nat.le_of_ble_eq_true rfl) dX1_endOf_14 ⟨Nat.zero_le _, Nat.zero_le _⟩ (fun H locs hP hS => ?_)
    rw [← hf]
    exact zz_reti C hr hP hS dX1_endOf_17
/-! X1_firstOf TR -/
theorem zd_X1_firstOf : yX1_firstOf.cls = RX1 ∧ yX1_firstOf.cls ≠ "java/lang/invoke/MethodHandle" ∧ yX1_firstOf.cls ≠ "java/lang/invoke/VarHandle" ∧ (parseMethodDescriptor yX1_firstOf.desc).map (fun d => d.parameters.length) = some 2 := by decide +kernel
abbrev zr_X1_firstOf : Room := { frames := 1, cells := 0, slots := 0, locals := 24 }
theorem zk_X1_firstOf_26 : Cond.fieldLink yX1_firstOf.cls 26 RX1 "firsts" "LThirteenthDay$Table;" ∈ wsX1_firstOf := by decide +kernel
theorem zi_X1_firstOf_X1 : ∀ w ∈ u_ws RX1 TX1 6, w ∈ wsX1_firstOf := by decide +kernel
def zX1_firstOf (v1 : Int32) (v2 : Int32) (st : zz_T) : Int32 :=
  (zz_g 3 v1 v2 st)
set_option maxHeartbeats 4000000 in
set_option maxRecDepth 100000 in
theorem zc_X1_firstOf {l : Launch} {A : Nat → Prop} {D : va_G} {cI : ClassId} {q : Nat → Nat} (v1 : Int32) (v2 : Int32) (st : zz_T) : zz_Mi l A D cI q yX1_firstOf wsX1_firstOf zr_X1_firstOf [.ref (q 1), .int v1, .int v2] st (zX1_firstOf v1 v2 st) st := by
  refine zz_of (cc := cX1_firstOf) (nL := 3) (ret := some .int) (by decide) rfl (Nat.le_of_ble_eq_true rfl) ?_
  intro p e s m args below meth c ls C hr hP hS hl
  obtain ⟨hx, hb, hml, hown, hts⟩ := id C.1
  have hl : lv_has ls 3 [(0, .ref (q 1)), (1, .int v1), (2, .int v2)] := hl
  obtain ⟨r, hf⟩ : ∃ r, zX1_firstOf v1 v2 st = r := ⟨_, rfl⟩
  rw [hf]
  rw [zX1_firstOf] at hf
  skip
  refine lv_aload_n hx hb dX1_firstOf_0 rfl (lv_at hl 0 rfl) ?_
  refine zz_getf C zi_X1_firstOf_X1 hP 1 rfl rfl 3 (nm := "firsts") (ds := "LThirteenthDay$Table;") (fin := true) rfl (by decide) zk_X1_firstOf_26 rfl dX1_firstOf_1 ?_
  refine lv_iload_n hx hb dX1_firstOf_4 rfl (lv_at hl 1 rfl) ?_
  refine lv_iload_n hx hb dX1_firstOf_5 rfl (lv_at hl 2 rfl) ?_
  refine zz_callVi C (As := [.int v1, .int v2]) (rest := []) (zc_X5_get 3 (by decide) _ _ _) (cwV 2 hts gX1_firstOf_X5_get rfl rfl rfl zd_X5_get ⟨Nat.le_of_ble_eq_true rfl, Nat.le_of_ble_eq_true rfl⟩) hP hS (9 + 3) (zz_c_tab (by decide)) rfl rfl hl rfl (Nat.le_of_ble_eq_true rfl) dX1_firstOf_6 ⟨Nat.zero_le _, Nat.zero_le _⟩ (fun H locs hP hS => ?_)
  rw [← hf]
  exact zz_reti C hr hP hS dX1_firstOf_9
/-! X1_getLine TR -/
theorem zd_X1_getLine : yX1_getLine.cls = RX1 ∧ yX1_getLine.cls ≠ "java/lang/invoke/MethodHandle" ∧ yX1_getLine.cls ≠ "java/lang/invoke/VarHandle" ∧ (parseMethodDescriptor yX1_getLine.desc).map (fun d => d.parameters.length) = some 2 := by decide +kernel
abbrev zr_X1_getLine : Room := { frames := 1, cells := 0, slots := 0, locals := 24 }
theorem zk_X1_getLine_20 : Cond.fieldLink yX1_getLine.cls 20 RX1 "lines" "LThirteenthDay$Table;" ∈ wsX1_getLine := by decide +kernel
theorem zi_X1_getLine_X1 : ∀ w ∈ u_ws RX1 TX1 6, w ∈ wsX1_getLine := by decide +kernel
def zX1_getLine (v1 : Int32) (v2 : Int32) (st : zz_T) : Int32 :=
  (zz_g 1 v1 v2 st)
set_option maxHeartbeats 4000000 in
set_option maxRecDepth 100000 in
theorem zc_X1_getLine {l : Launch} {A : Nat → Prop} {D : va_G} {cI : ClassId} {q : Nat → Nat} (v1 : Int32) (v2 : Int32) (st : zz_T) : zz_Mi l A D cI q yX1_getLine wsX1_getLine zr_X1_getLine [.ref (q 1), .int v1, .int v2] st (zX1_getLine v1 v2 st) st := by
  refine zz_of (cc := cX1_getLine) (nL := 3) (ret := some .int) (by decide) rfl (Nat.le_of_ble_eq_true rfl) ?_
  intro p e s m args below meth c ls C hr hP hS hl
  obtain ⟨hx, hb, hml, hown, hts⟩ := id C.1
  have hl : lv_has ls 3 [(0, .ref (q 1)), (1, .int v1), (2, .int v2)] := hl
  obtain ⟨r, hf⟩ : ∃ r, zX1_getLine v1 v2 st = r := ⟨_, rfl⟩
  rw [hf]
  rw [zX1_getLine] at hf
  skip
  refine lv_aload_n hx hb dX1_getLine_0 rfl (lv_at hl 0 rfl) ?_
  refine zz_getf C zi_X1_getLine_X1 hP 1 rfl rfl 1 (nm := "lines") (ds := "LThirteenthDay$Table;") (fin := true) rfl (by decide) zk_X1_getLine_20 rfl dX1_getLine_1 ?_
  refine lv_iload_n hx hb dX1_getLine_4 rfl (lv_at hl 1 rfl) ?_
  refine lv_iload_n hx hb dX1_getLine_5 rfl (lv_at hl 2 rfl) ?_
  refine zz_callVi C (As := [.int v1, .int v2]) (rest := []) (zc_X5_get 1 (by decide) _ _ _) (cwV 2 hts gX1_getLine_X5_get rfl rfl rfl zd_X5_get ⟨Nat.le_of_ble_eq_true rfl, Nat.le_of_ble_eq_true rfl⟩) hP hS (9 + 1) (zz_c_tab (by decide)) rfl rfl hl rfl (Nat.le_of_ble_eq_true rfl) dX1_getLine_6 ⟨Nat.zero_le _, Nat.zero_le _⟩ (fun H locs hP hS => ?_)
  rw [← hf]
  exact zz_reti C hr hP hS dX1_getLine_9
/-! X1_getStation TR -/
theorem zd_X1_getStation : yX1_getStation.cls = RX1 ∧ yX1_getStation.cls ≠ "java/lang/invoke/MethodHandle" ∧ yX1_getStation.cls ≠ "java/lang/invoke/VarHandle" ∧ (parseMethodDescriptor yX1_getStation.desc).map (fun d => d.parameters.length) = some 2 := by decide +kernel
abbrev zr_X1_getStation : Room := { frames := 1, cells := 0, slots := 0, locals := 24 }
theorem zk_X1_getStation_16 : Cond.fieldLink yX1_getStation.cls 16 RX1 "stations" "LThirteenthDay$Table;" ∈ wsX1_getStation := by decide +kernel
theorem zi_X1_getStation_X1 : ∀ w ∈ u_ws RX1 TX1 6, w ∈ wsX1_getStation := by decide +kernel
def zX1_getStation (v1 : Int32) (v2 : Int32) (st : zz_T) : Int32 :=
  (zz_g 0 v1 v2 st)
set_option maxHeartbeats 4000000 in
set_option maxRecDepth 100000 in
theorem zc_X1_getStation {l : Launch} {A : Nat → Prop} {D : va_G} {cI : ClassId} {q : Nat → Nat} (v1 : Int32) (v2 : Int32) (st : zz_T) : zz_Mi l A D cI q yX1_getStation wsX1_getStation zr_X1_getStation [.ref (q 1), .int v1, .int v2] st (zX1_getStation v1 v2 st) st := by
  refine zz_of (cc := cX1_getStation) (nL := 3) (ret := some .int) (by decide) rfl (Nat.le_of_ble_eq_true rfl) ?_
  intro p e s m args below meth c ls C hr hP hS hl
  obtain ⟨hx, hb, hml, hown, hts⟩ := id C.1
  have hl : lv_has ls 3 [(0, .ref (q 1)), (1, .int v1), (2, .int v2)] := hl
  obtain ⟨r, hf⟩ : ∃ r, zX1_getStation v1 v2 st = r := ⟨_, rfl⟩
  rw [hf]
  rw [zX1_getStation] at hf
  skip
  refine lv_aload_n hx hb dX1_getStation_0 rfl (lv_at hl 0 rfl) ?_
  refine zz_getf C zi_X1_getStation_X1 hP 1 rfl rfl 0 (nm := "stations") (ds := "LThirteenthDay$Table;") (fin := true) rfl (by decide) zk_X1_getStation_16 rfl dX1_getStation_1 ?_
  refine lv_iload_n hx hb dX1_getStation_4 rfl (lv_at hl 1 rfl) ?_
  refine lv_iload_n hx hb dX1_getStation_5 rfl (lv_at hl 2 rfl) ?_
  refine zz_callVi C (As := [.int v1, .int v2]) (rest := []) (zc_X5_get 0 (by decide) _ _ _) (cwV 2 hts gX1_getStation_X5_get rfl rfl rfl zd_X5_get ⟨Nat.le_of_ble_eq_true rfl, Nat.le_of_ble_eq_true rfl⟩) hP hS (9 + 0) (zz_c_tab (by decide)) rfl rfl hl rfl (Nat.le_of_ble_eq_true rfl) dX1_getStation_6 ⟨Nat.zero_le _, Nat.zero_le _⟩ (fun H locs hP hS => ?_)
  rw [← hf]
  exact zz_reti C hr hP hS dX1_getStation_9
/-! X1_linesOf PR -/
theorem zd_X1_linesOf : yX1_linesOf.cls = RX1 ∧ yX1_linesOf.cls ≠ "java/lang/invoke/MethodHandle" ∧ yX1_linesOf.cls ≠ "java/lang/invoke/VarHandle" ∧ (parseMethodDescriptor yX1_linesOf.desc).map (fun d => d.parameters.length) = some 2 := by decide +kernel
abbrev zr_X1_linesOf : Room := { frames := 2, cells := 0, slots := 0, locals := 46 }
theorem zk_X1_linesOf_23 : Cond.fieldLink yX1_linesOf.cls 23 RX1 "times" "LThirteenthDay$Table;" ∈ wsX1_linesOf := by decide +kernel
theorem zk_X1_linesOf_26 : Cond.fieldLink yX1_linesOf.cls 26 RX1 "firsts" "LThirteenthDay$Table;" ∈ wsX1_linesOf := by decide +kernel
theorem zk_X1_linesOf_20 : Cond.fieldLink yX1_linesOf.cls 20 RX1 "lines" "LThirteenthDay$Table;" ∈ wsX1_linesOf := by decide +kernel
theorem zi_X1_linesOf_X1 : ∀ w ∈ u_ws RX1 TX1 6, w ∈ wsX1_linesOf := by decide +kernel
def zX1_linesOf_23 : Nat → Int32 → Int32 → Int32 → Int32 → zz_T → Option Int32
  | 0, _, _, _, _, _ => none
  | n + 1, v2, v3, v4, v5, st =>
    if 10 ≤ v5 then
      some v3
    else
      if v4 = v2 then
        some v3
      else
        zz_v (zz_g 3 v4 v2 st) fun w1 =>
        if (zz_g 1 w1 0 st) = v4 then
          zz_v (zX1_endOf w1 true st) fun w3 =>
          zX1_linesOf_23 n v2 (v3 + 1) w3 (v5 + 1) st
        else
          zz_v (zX1_endOf w1 false st) fun w2 =>
          zX1_linesOf_23 n v2 (v3 + 1) w2 (v5 + 1) st
set_option maxHeartbeats 4000000 in
set_option maxRecDepth 100000 in
theorem zt_X1_linesOf_23 {l : Launch} {A : Nat → Prop} {D : va_G} {cI : ClassId} {q : Nat → Nat} {p : Program} {e : Env} {s : State} {m : MethodId} {args : Array Value} {below : List Frame} {meth : Method} {c : Code} (C : zz_C A D cI q p s m args meth c cX1_linesOf 7 wsX1_linesOf yX1_linesOf.cls) (hr : meth.sig.returnType = some .int) : ∀ (n : Nat) (v2 : Int32) (v3 : Int32) (v4 : Int32) (v5 : Int32) (st : zz_T) (H : Heap) (locs : List Loc) (ls : Array Slot) (r : Int32), zX1_linesOf_23 n v2 v3 v4 v5 st = some r → va_P D vwCl (zz_c q cI st) H → va_S A s.heap H locs → lv_has ls 7 [(0, .ref (q 1)), (2, .int v2), (3, .int v3), (4, .int v4), (5, .int v5)] → W p l e zr_X1_linesOf s m args below meth c H locs 0 0 (zz_Qi A D cI q r st below args s) (F0 m 23 ls []) := by
  obtain ⟨hx, hb, hml, hown, hts⟩ := id C.1
  intro n
  induction n with
  | zero => intro v2 v3 v4 v5 st H locs ls r hf; cases hf
  | succ n ih =>
    intro v2 v3 v4 v5 st H locs ls r hf hP hS hl
    rw [zX1_linesOf_23] at hf
    refine lv_iload hx hb dX1_linesOf_23 (lv_at hl 4 rfl) ?_
    refine lv_bipush (v := 10) hx hb dX1_linesOf_25 (by decide) ?_
    refine lv_icmp_ge (tgt := 85) hx hb dX1_linesOf_27 (by decide) (fun h => ?_) (fun h => ?_)
    · rw [if_pos h] at hf
      refine lv_iload_n hx hb dX1_linesOf_85 rfl (lv_at hl 2 rfl) ?_
      rw [← (Option.some.inj hf)]
      exact zz_reti C hr hP hS dX1_linesOf_86
    · rw [if_neg h] at hf
      refine lv_iload hx hb dX1_linesOf_30 (lv_at hl 3 rfl) ?_
      refine lv_iload_n hx hb dX1_linesOf_32 rfl (lv_at hl 1 rfl) ?_
      refine lv_icmp_eq (tgt := 85) hx hb dX1_linesOf_33 (by decide) (fun h => ?_) (fun h => ?_)
      · rw [if_pos h] at hf
        refine lv_iload_n hx hb dX1_linesOf_85 rfl (lv_at hl 2 rfl) ?_
        rw [← (Option.some.inj hf)]
        exact zz_reti C hr hP hS dX1_linesOf_86
      · rw [if_neg h] at hf
        refine lv_aload_n hx hb dX1_linesOf_36 rfl (lv_at hl 0 rfl) ?_
        refine zz_getf C zi_X1_linesOf_X1 hP 1 rfl rfl 3 (nm := "firsts") (ds := "LThirteenthDay$Table;") (fin := true) rfl (by decide) zk_X1_linesOf_26 rfl dX1_linesOf_37 ?_
        refine lv_iload hx hb dX1_linesOf_40 (lv_at hl 3 rfl) ?_
        refine lv_iload_n hx hb dX1_linesOf_42 rfl (lv_at hl 1 rfl) ?_
        refine zz_callVi C (As := [.int v4, .int v2]) (rest := []) (zc_X5_get 3 (by decide) _ _ _) (cwV 2 hts gX1_linesOf_X5_get rfl rfl rfl zd_X5_get ⟨Nat.le_of_ble_eq_true rfl, Nat.le_of_ble_eq_true rfl⟩) hP hS (9 + 3) (zz_c_tab (by decide)) rfl rfl hl rfl (Nat.le_of_ble_eq_true rfl) dX1_linesOf_43 ⟨Nat.zero_le _, Nat.zero_le _⟩ (fun H locs hP hS => ?_)
        refine lv_topi (fun w1 e1 => ?_)
        replace hf := zz_vi hf e1
        refine lv_istore (lv' := [(6, .int w1), (0, .ref (q 1)), (2, .int v2), (3, .int v3), (4, .int v4), (5, .int v5)]) hx hb dX1_linesOf_46 hl (by decide) rfl (fun ls hl => ?_)
        refine lv_aload_n hx hb dX1_linesOf_48 rfl (lv_at hl 1 rfl) ?_
        refine lv_iload hx hb dX1_linesOf_49 (lv_at hl 0 rfl) ?_
        refine lv_aload_n hx hb dX1_linesOf_51 rfl (lv_at hl 1 rfl) ?_
        refine zz_getf C zi_X1_linesOf_X1 hP 1 rfl rfl 1 (nm := "lines") (ds := "LThirteenthDay$Table;") (fin := true) rfl (by decide) zk_X1_linesOf_20 rfl dX1_linesOf_52 ?_
        refine lv_iload hx hb dX1_linesOf_55 (lv_at hl 0 rfl) ?_
        refine lv_iconst (v := 0) hx hb dX1_linesOf_57 (by decide) ?_
        refine zz_callVi C (As := [.int w1, .int 0]) (rest := [.int w1, .ref (q 1)]) (zc_X5_get 1 (by decide) _ _ _) (cwV 2 hts gX1_linesOf_X5_get rfl rfl rfl zd_X5_get ⟨Nat.le_of_ble_eq_true rfl, Nat.le_of_ble_eq_true rfl⟩) hP hS (9 + 1) (zz_c_tab (by decide)) rfl rfl hl rfl (Nat.le_of_ble_eq_true rfl) dX1_linesOf_58 ⟨Nat.zero_le _, Nat.zero_le _⟩ (fun H locs hP hS => ?_)
        refine lv_iload hx hb dX1_linesOf_61 (lv_at hl 4 rfl) ?_
        refine lv_icmp_ne (tgt := 70) hx hb dX1_linesOf_63 (by decide) (fun h => ?_) (fun h => ?_)
        · rw [if_neg h] at hf
          refine lv_iconst (v := 0) hx hb dX1_linesOf_70 (by decide) ?_
          refine zz_callVi C (As := [.int w1, .int 0]) (rest := []) (zc_X1_endOf _ false _) (cwV 2 hts gX1_linesOf_X1_endOf rfl rfl rfl zd_X1_endOf ⟨Nat.le_of_ble_eq_true rfl, Nat.le_of_ble_eq_true rfl⟩) hP hS 1 rfl rfl rfl hl rfl (Nat.le_of_ble_eq_true rfl) dX1_linesOf_71 ⟨Nat.zero_le _, Nat.zero_le _⟩ (fun H locs hP hS => ?_)
          refine lv_topi (fun w2 e2 => ?_)
          replace hf := zz_vi hf e2
          refine lv_istore (lv' := [(4, .int w2), (6, .int w1), (0, .ref (q 1)), (2, .int v2), (3, .int v3), (5, .int v5)]) hx hb dX1_linesOf_74 hl (by decide) rfl (fun ls hl => ?_)
          refine lv_iinc (v := (v3 + 1)) (lv' := [(3, .int (v3 + 1)), (4, .int w2), (6, .int w1), (0, .ref (q 1)), (2, .int v2), (5, .int v5)]) hx hb dX1_linesOf_76 hl (k := 4) rfl (congrArg (fun z => v3 + z) (by decide)) (by decide) rfl (fun ls hl => ?_)
          refine lv_iinc (v := (v5 + 1)) (lv' := [(5, .int (v5 + 1)), (3, .int (v3 + 1)), (4, .int w2), (6, .int w1), (0, .ref (q 1)), (2, .int v2)]) hx hb dX1_linesOf_79 hl (k := 5) rfl (congrArg (fun z => v5 + z) (by decide)) (by decide) rfl (fun ls hl => ?_)
          refine lv_goto (tgt := 23) hx hb dX1_linesOf_82 (by decide) ?_
          exact ih _ _ _ _ _ _ _ _ _ hf hP hS (lv_sub hl [4, 5, 1, 2, 0] rfl)
        · rw [if_pos h] at hf
          refine lv_iconst (v := 1) hx hb dX1_linesOf_66 (by decide) ?_
          refine lv_goto (tgt := 71) hx hb dX1_linesOf_67 (by decide) ?_
          refine zz_callVi C (As := [.int w1, .int 1]) (rest := []) (zc_X1_endOf _ true _) (cwV 2 hts gX1_linesOf_X1_endOf rfl rfl rfl zd_X1_endOf ⟨Nat.le_of_ble_eq_true rfl, Nat.le_of_ble_eq_true rfl⟩) hP hS 1 rfl rfl rfl hl rfl (Nat.le_of_ble_eq_true rfl) dX1_linesOf_71 ⟨Nat.zero_le _, Nat.zero_le _⟩ (fun H locs hP hS => ?_)
          refine lv_topi (fun w3 e3 => ?_)
          replace hf := zz_vi hf e3
          refine lv_istore (lv' := [(4, .int w3), (6, .int w1), (0, .ref (q 1)), (2, .int v2), (3, .int v3), (5, .int v5)]) hx hb dX1_linesOf_74 hl (by decide) rfl (fun ls hl => ?_)
          refine lv_iinc (v := (v3 + 1)) (lv' := [(3, .int (v3 + 1)), (4, .int w3), (6, .int w1), (0, .ref (q 1)), (2, .int v2), (5, .int v5)]) hx hb dX1_linesOf_76 hl (k := 4) rfl (congrArg (fun z => v3 + z) (by decide)) (by decide) rfl (fun ls hl => ?_)
          refine lv_iinc (v := (v5 + 1)) (lv' := [(5, .int (v5 + 1)), (3, .int (v3 + 1)), (4, .int w3), (6, .int w1), (0, .ref (q 1)), (2, .int v2)]) hx hb dX1_linesOf_79 hl (k := 5) rfl (congrArg (fun z => v5 + z) (by decide)) (by decide) rfl (fun ls hl => ?_)
          refine lv_goto (tgt := 23) hx hb dX1_linesOf_82 (by decide) ?_
          exact ih _ _ _ _ _ _ _ _ _ hf hP hS (lv_sub hl [4, 5, 1, 2, 0] rfl)
def zX1_linesOf (v1 : Int32) (v2 : Int32) (st : zz_T) : Option Int32 :=
  if (zz_g 2 v1 v2 st) = (-1) then
    some (-1)
  else
    zX1_linesOf_23 zz_N v2 0 v1 0 st
set_option maxHeartbeats 4000000 in
set_option maxRecDepth 100000 in
theorem zc_X1_linesOf {l : Launch} {A : Nat → Prop} {D : va_G} {cI : ClassId} {q : Nat → Nat} (v1 : Int32) (v2 : Int32) (st : zz_T) (r : Int32) (hf : zX1_linesOf v1 v2 st = some r) : zz_Mi l A D cI q yX1_linesOf wsX1_linesOf zr_X1_linesOf [.ref (q 1), .int v1, .int v2] st r st := by
  refine zz_of (cc := cX1_linesOf) (nL := 7) (ret := some .int) (by decide) rfl (Nat.le_of_ble_eq_true rfl) ?_
  intro p e s m args below meth c ls C hr hP hS hl
  obtain ⟨hx, hb, hml, hown, hts⟩ := id C.1
  have hl : lv_has ls 7 [(0, .ref (q 1)), (1, .int v1), (2, .int v2)] := hl
  rw [zX1_linesOf] at hf
  skip
  refine lv_aload_n hx hb dX1_linesOf_0 rfl (lv_at hl 0 rfl) ?_
  refine zz_getf C zi_X1_linesOf_X1 hP 1 rfl rfl 2 (nm := "times") (ds := "LThirteenthDay$Table;") (fin := true) rfl (by decide) zk_X1_linesOf_23 rfl dX1_linesOf_1 ?_
  refine lv_iload_n hx hb dX1_linesOf_4 rfl (lv_at hl 1 rfl) ?_
  refine lv_iload_n hx hb dX1_linesOf_5 rfl (lv_at hl 2 rfl) ?_
  refine zz_callVi C (As := [.int v1, .int v2]) (rest := []) (zc_X5_get 2 (by decide) _ _ _) (cwV 2 hts gX1_linesOf_X5_get rfl rfl rfl zd_X5_get ⟨Nat.le_of_ble_eq_true rfl, Nat.le_of_ble_eq_true rfl⟩) hP hS (9 + 2) (zz_c_tab (by decide)) rfl rfl hl rfl (Nat.le_of_ble_eq_true rfl) dX1_linesOf_6 ⟨Nat.zero_le _, Nat.zero_le _⟩ (fun H locs hP hS => ?_)
  refine lv_iconst (v := (-1)) hx hb dX1_linesOf_9 (by decide) ?_
  refine lv_icmp_ne (tgt := 15) hx hb dX1_linesOf_10 (by decide) (fun h => ?_) (fun h => ?_)
  · rw [if_neg h] at hf
    refine lv_iconst (v := 0) hx hb dX1_linesOf_15 (by decide) ?_
    refine lv_istore_n (lv' := [(3, .int 0), (0, .ref (q 1)), (1, .int v1), (2, .int v2)]) hx hb dX1_linesOf_16 rfl hl (by decide) rfl (fun ls hl => ?_)
    refine lv_iload_n hx hb dX1_linesOf_17 rfl (lv_at hl 2 rfl) ?_
    refine lv_istore (lv' := [(4, .int v1), (3, .int 0), (0, .ref (q 1)), (1, .int v1), (2, .int v2)]) hx hb dX1_linesOf_18 hl (by decide) rfl (fun ls hl => ?_)
    refine lv_iconst (v := 0) hx hb dX1_linesOf_20 (by decide) ?_
    refine lv_istore (lv' := [(5, .int 0), (4, .int v1), (3, .int 0), (0, .ref (q 1)), (1, .int v1), (2, .int v2)]) hx hb dX1_linesOf_21 hl (by decide) rfl (fun ls hl => ?_)
    exact zt_X1_linesOf_23 C hr zz_N _ _ _ _ _ _ _ _ _ hf hP hS (lv_sub hl [3, 5, 2, 1, 0] rfl)
  · rw [if_pos h] at hf
    refine lv_iconst (v := (-1)) hx hb dX1_linesOf_13 (by decide) ?_
    rw [← (Option.some.inj hf)]
    exact zz_reti C hr hP hS dX1_linesOf_14
/-! X1_timeOf TR -/
theorem zd_X1_timeOf : yX1_timeOf.cls = RX1 ∧ yX1_timeOf.cls ≠ "java/lang/invoke/MethodHandle" ∧ yX1_timeOf.cls ≠ "java/lang/invoke/VarHandle" ∧ (parseMethodDescriptor yX1_timeOf.desc).map (fun d => d.parameters.length) = some 2 := by decide +kernel
abbrev zr_X1_timeOf : Room := { frames := 1, cells := 0, slots := 0, locals := 24 }
theorem zk_X1_timeOf_23 : Cond.fieldLink yX1_timeOf.cls 23 RX1 "times" "LThirteenthDay$Table;" ∈ wsX1_timeOf := by decide +kernel
theorem zi_X1_timeOf_X1 : ∀ w ∈ u_ws RX1 TX1 6, w ∈ wsX1_timeOf := by decide +kernel
def zX1_timeOf (v1 : Int32) (v2 : Int32) (st : zz_T) : Int32 :=
  (zz_g 2 v1 v2 st)
set_option maxHeartbeats 4000000 in
set_option maxRecDepth 100000 in
theorem zc_X1_timeOf {l : Launch} {A : Nat → Prop} {D : va_G} {cI : ClassId} {q : Nat → Nat} (v1 : Int32) (v2 : Int32) (st : zz_T) : zz_Mi l A D cI q yX1_timeOf wsX1_timeOf zr_X1_timeOf [.ref (q 1), .int v1, .int v2] st (zX1_timeOf v1 v2 st) st := by
  refine zz_of (cc := cX1_timeOf) (nL := 3) (ret := some .int) (by decide) rfl (Nat.le_of_ble_eq_true rfl) ?_
  intro p e s m args below meth c ls C hr hP hS hl
  obtain ⟨hx, hb, hml, hown, hts⟩ := id C.1
  have hl : lv_has ls 3 [(0, .ref (q 1)), (1, .int v1), (2, .int v2)] := hl
  obtain ⟨r, hf⟩ : ∃ r, zX1_timeOf v1 v2 st = r := ⟨_, rfl⟩
  rw [hf]
  rw [zX1_timeOf] at hf
  skip
  refine lv_aload_n hx hb dX1_timeOf_0 rfl (lv_at hl 0 rfl) ?_
  refine zz_getf C zi_X1_timeOf_X1 hP 1 rfl rfl 2 (nm := "times") (ds := "LThirteenthDay$Table;") (fin := true) rfl (by decide) zk_X1_timeOf_23 rfl dX1_timeOf_1 ?_
  refine lv_iload_n hx hb dX1_timeOf_4 rfl (lv_at hl 1 rfl) ?_
  refine lv_iload_n hx hb dX1_timeOf_5 rfl (lv_at hl 2 rfl) ?_
  refine zz_callVi C (As := [.int v1, .int v2]) (rest := []) (zc_X5_get 2 (by decide) _ _ _) (cwV 2 hts gX1_timeOf_X5_get rfl rfl rfl zd_X5_get ⟨Nat.le_of_ble_eq_true rfl, Nat.le_of_ble_eq_true rfl⟩) hP hS (9 + 2) (zz_c_tab (by decide)) rfl rfl hl rfl (Nat.le_of_ble_eq_true rfl) dX1_timeOf_6 ⟨Nat.zero_le _, Nat.zero_le _⟩ (fun H locs hP hS => ?_)
  rw [← hf]
  exact zz_reti C hr hP hS dX1_timeOf_9
/-! X1_isDouble TR -/
theorem zd_X1_isDouble : yX1_isDouble.cls = RX1 ∧ yX1_isDouble.cls ≠ "java/lang/invoke/MethodHandle" ∧ yX1_isDouble.cls ≠ "java/lang/invoke/VarHandle" ∧ (parseMethodDescriptor yX1_isDouble.desc).map (fun d => d.parameters.length) = some 1 := by decide +kernel
abbrev zr_X1_isDouble : Room := { frames := 1, cells := 0, slots := 0, locals := 24 }
theorem zk_X1_isDouble_20 : Cond.fieldLink yX1_isDouble.cls 20 RX1 "lines" "LThirteenthDay$Table;" ∈ wsX1_isDouble := by decide +kernel
theorem zi_X1_isDouble_X1 : ∀ w ∈ u_ws RX1 TX1 6, w ∈ wsX1_isDouble := by decide +kernel
def zX1_isDouble (v1 : Int32) (st : zz_T) : Bool :=
  if (zz_g 1 v1 5 st) = 1 then
    true
  else
    false
set_option maxHeartbeats 4000000 in
set_option maxRecDepth 100000 in
theorem zc_X1_isDouble {l : Launch} {A : Nat → Prop} {D : va_G} {cI : ClassId} {q : Nat → Nat} (v1 : Int32) (st : zz_T) : zz_Mi l A D cI q yX1_isDouble wsX1_isDouble zr_X1_isDouble [.ref (q 1), .int v1] st (zz_b (zX1_isDouble v1 st)) st := by
  refine zz_of (cc := cX1_isDouble) (nL := 2) (ret := some .boolean) (by decide) rfl (Nat.le_of_ble_eq_true rfl) ?_
  intro p e s m args below meth c ls C hr hP hS hl
  obtain ⟨hx, hb, hml, hown, hts⟩ := id C.1
  have hl : lv_has ls 2 [(0, .ref (q 1)), (1, .int v1)] := hl
  obtain ⟨r, hf⟩ : ∃ r, zX1_isDouble v1 st = r := ⟨_, rfl⟩
  rw [hf]
  rw [zX1_isDouble] at hf
  skip
  refine lv_aload_n hx hb dX1_isDouble_0 rfl (lv_at hl 0 rfl) ?_
  refine zz_getf C zi_X1_isDouble_X1 hP 1 rfl rfl 1 (nm := "lines") (ds := "LThirteenthDay$Table;") (fin := true) rfl (by decide) zk_X1_isDouble_20 rfl dX1_isDouble_1 ?_
  refine lv_iload_n hx hb dX1_isDouble_4 rfl (lv_at hl 1 rfl) ?_
  refine lv_iconst (v := 5) hx hb dX1_isDouble_5 (by decide) ?_
  refine zz_callVi C (As := [.int v1, .int 5]) (rest := []) (zc_X5_get 1 (by decide) _ _ _) (cwV 2 hts gX1_isDouble_X5_get rfl rfl rfl zd_X5_get ⟨Nat.le_of_ble_eq_true rfl, Nat.le_of_ble_eq_true rfl⟩) hP hS (9 + 1) (zz_c_tab (by decide)) rfl rfl hl rfl (Nat.le_of_ble_eq_true rfl) dX1_isDouble_6 ⟨Nat.zero_le _, Nat.zero_le _⟩ (fun H locs hP hS => ?_)
  refine lv_iconst (v := 1) hx hb dX1_isDouble_9 (by decide) ?_
  refine lv_icmp_ne (tgt := 17) hx hb dX1_isDouble_10 (by decide) (fun h => ?_) (fun h => ?_)
  · rw [if_neg h] at hf
    refine lv_iconst (v := 0) hx hb dX1_isDouble_17 (by decide) ?_
    rw [← hf]
    exact zz_retz (v := false) C hr hP hS dX1_isDouble_18
  · rw [if_pos h] at hf
    refine lv_iconst (v := 1) hx hb dX1_isDouble_13 (by decide) ?_
    refine lv_goto (tgt := 18) hx hb dX1_isDouble_14 (by decide) ?_
    rw [← hf]
    exact zz_retz (v := true) C hr hP hS dX1_isDouble_18
/-! X2_noteTrack TW -/
theorem zd_X2_noteTrack : yX2_noteTrack.cls = RX2 ∧ yX2_noteTrack.cls ≠ "java/lang/invoke/MethodHandle" ∧ yX2_noteTrack.cls ≠ "java/lang/invoke/VarHandle" ∧ (parseMethodDescriptor yX2_noteTrack.desc).map (fun d => d.parameters.length) = some 2 := by decide +kernel
abbrev zr_X2_noteTrack : Room := { frames := 2, cells := 0, slots := 0, locals := 46 }
theorem zk_X2_noteTrack_35 : Cond.fieldLink yX2_noteTrack.cls 35 RX2 "tracks" "LThirteenthDay$Table;" ∈ wsX2_noteTrack := by decide +kernel
theorem zi_X2_noteTrack_X2 : ∀ w ∈ u_ws RX2 TX2 5, w ∈ wsX2_noteTrack := by decide +kernel
def zX2_noteTrack (b : Nat) (v1 : Int32) (st : zz_T) : zz_T :=
  zz_v (zz_set (b + 4) v1 0 (zX1_getLine v1 3 st) st) fun st1 =>
  zz_v (zz_set (b + 4) v1 1 (zX1_getLine v1 7 st1) st1) fun st3 =>
  if (zX1_isDouble v1 st3) = true then
    zz_v (zz_set (b + 4) v1 2 1 st3) fun st7 =>
    st7
  else
    zz_v (zz_set (b + 4) v1 2 0 st3) fun st5 =>
    st5
set_option maxHeartbeats 4000000 in
set_option maxRecDepth 100000 in
theorem zc_X2_noteTrack {l : Launch} {A : Nat → Prop} {D : va_G} {cI : ClassId} {q : Nat → Nat} (o b : Nat) (hz : zz_P o b) (v1 : Int32) (st : zz_T) : zz_Mv l A D cI q yX2_noteTrack wsX2_noteTrack zr_X2_noteTrack [.ref (q o), .int v1, .ref (q 1)] st (zX2_noteTrack b v1 st) := by
  refine zz_of (cc := cX2_noteTrack) (nL := 3) (ret := none) (by decide) rfl (Nat.le_of_ble_eq_true rfl) ?_
  intro p e s m args below meth c ls C hr hP hS hl
  obtain ⟨hx, hb, hml, hown, hts⟩ := id C.1
  have hl : lv_has ls 3 [(0, .ref (q o)), (1, .int v1), (2, .ref (q 1))] := hl
  obtain ⟨r, hf⟩ : ∃ r, zX2_noteTrack b v1 st = r := ⟨_, rfl⟩
  rw [hf]
  rw [zX2_noteTrack] at hf
  skip
  refine lv_aload_n hx hb dX2_noteTrack_0 rfl (lv_at hl 0 rfl) ?_
  refine zz_getf C zi_X2_noteTrack_X2 hP o (zz_c_pa hz) rfl 4 (nm := "tracks") (ds := "LThirteenthDay$Table;") (fin := true) rfl (by decide) zk_X2_noteTrack_35 rfl dX2_noteTrack_1 ?_
  refine lv_iload_n hx hb dX2_noteTrack_4 rfl (lv_at hl 1 rfl) ?_
  refine lv_iconst (v := 0) hx hb dX2_noteTrack_5 (by decide) ?_
  refine lv_aload_n hx hb dX2_noteTrack_6 rfl (lv_at hl 2 rfl) ?_
  refine lv_iload_n hx hb dX2_noteTrack_7 rfl (lv_at hl 1 rfl) ?_
  refine lv_iconst (v := 3) hx hb dX2_noteTrack_8 (by decide) ?_
  refine zz_callVi C (As := [.int v1, .int 3]) (rest := [.int 0, .int v1, .ref (q (9 + (b + 4)))]) (zc_X1_getLine _ _ _) (cwV 2 hts gX2_noteTrack_X1_getLine rfl rfl rfl zd_X1_getLine ⟨Nat.le_of_ble_eq_true rfl, Nat.le_of_ble_eq_true rfl⟩) hP hS 1 rfl rfl rfl hl rfl (Nat.le_of_ble_eq_true rfl) dX2_noteTrack_9 ⟨Nat.zero_le _, Nat.zero_le _⟩ (fun H locs hP hS => ?_)
  obtain ⟨st1, e2, hf⟩ := zz_vo hf
  refine zz_callVv C (As := [.int v1, .int 0, .int (zX1_getLine v1 3 st)]) (rest := []) (zz_Mv_e e2 (zc_X5_set (b + 4) (zz_Plt hz (by decide)) _ _ _ _)) (cwV 3 hts gX2_noteTrack_X5_set rfl rfl rfl zd_X5_set ⟨Nat.le_of_ble_eq_true rfl, Nat.le_of_ble_eq_true rfl⟩) hP hS (9 + (b + 4)) (zz_c_tab (zz_Plt hz (by decide))) rfl rfl hl rfl (Nat.le_of_ble_eq_true rfl) dX2_noteTrack_12 ⟨Nat.zero_le _, Nat.zero_le _⟩ (fun H locs hP hS => ?_)
  refine lv_aload_n hx hb dX2_noteTrack_15 rfl (lv_at hl 0 rfl) ?_
  refine zz_getf C zi_X2_noteTrack_X2 hP o (zz_c_pa hz) rfl 4 (nm := "tracks") (ds := "LThirteenthDay$Table;") (fin := true) rfl (by decide) zk_X2_noteTrack_35 rfl dX2_noteTrack_16 ?_
  refine lv_iload_n hx hb dX2_noteTrack_19 rfl (lv_at hl 1 rfl) ?_
  refine lv_iconst (v := 1) hx hb dX2_noteTrack_20 (by decide) ?_
  refine lv_aload_n hx hb dX2_noteTrack_21 rfl (lv_at hl 2 rfl) ?_
  refine lv_iload_n hx hb dX2_noteTrack_22 rfl (lv_at hl 1 rfl) ?_
  refine lv_bipush (v := 7) hx hb dX2_noteTrack_23 (by decide) ?_
  refine zz_callVi C (As := [.int v1, .int 7]) (rest := [.int 1, .int v1, .ref (q (9 + (b + 4)))]) (zc_X1_getLine _ _ _) (cwV 2 hts gX2_noteTrack_X1_getLine rfl rfl rfl zd_X1_getLine ⟨Nat.le_of_ble_eq_true rfl, Nat.le_of_ble_eq_true rfl⟩) hP hS 1 rfl rfl rfl hl rfl (Nat.le_of_ble_eq_true rfl) dX2_noteTrack_25 ⟨Nat.zero_le _, Nat.zero_le _⟩ (fun H locs hP hS => ?_)
  obtain ⟨st3, e4, hf⟩ := zz_vo hf
  refine zz_callVv C (As := [.int v1, .int 1, .int (zX1_getLine v1 7 st1)]) (rest := []) (zz_Mv_e e4 (zc_X5_set (b + 4) (zz_Plt hz (by decide)) _ _ _ _)) (cwV 3 hts gX2_noteTrack_X5_set rfl rfl rfl zd_X5_set ⟨Nat.le_of_ble_eq_true rfl, Nat.le_of_ble_eq_true rfl⟩) hP hS (9 + (b + 4)) (zz_c_tab (zz_Plt hz (by decide))) rfl rfl hl rfl (Nat.le_of_ble_eq_true rfl) dX2_noteTrack_28 ⟨Nat.zero_le _, Nat.zero_le _⟩ (fun H locs hP hS => ?_)
  refine lv_aload_n hx hb dX2_noteTrack_31 rfl (lv_at hl 0 rfl) ?_
  refine zz_getf C zi_X2_noteTrack_X2 hP o (zz_c_pa hz) rfl 4 (nm := "tracks") (ds := "LThirteenthDay$Table;") (fin := true) rfl (by decide) zk_X2_noteTrack_35 rfl dX2_noteTrack_32 ?_
  refine lv_iload_n hx hb dX2_noteTrack_35 rfl (lv_at hl 1 rfl) ?_
  refine lv_iconst (v := 2) hx hb dX2_noteTrack_36 (by decide) ?_
  refine lv_aload_n hx hb dX2_noteTrack_37 rfl (lv_at hl 2 rfl) ?_
  refine lv_iload_n hx hb dX2_noteTrack_38 rfl (lv_at hl 1 rfl) ?_
  refine zz_callVi C (As := [.int v1]) (rest := [.int 2, .int v1, .ref (q (9 + (b + 4)))]) (zc_X1_isDouble _ _) (cwV 1 hts gX2_noteTrack_X1_isDouble rfl rfl rfl zd_X1_isDouble ⟨Nat.le_of_ble_eq_true rfl, Nat.le_of_ble_eq_true rfl⟩) hP hS 1 rfl rfl rfl hl rfl (Nat.le_of_ble_eq_true rfl) dX2_noteTrack_39 ⟨Nat.zero_le _, Nat.zero_le _⟩ (fun H locs hP hS => ?_)
  refine lv_if_eq (tgt := 49) hx hb dX2_noteTrack_42 (by decide) (fun h => ?_) (fun h => ?_)
  · rw [zz_if0 (zz_b0 h)] at hf
    refine lv_iconst (v := 0) hx hb dX2_noteTrack_49 (by decide) ?_
    obtain ⟨st5, e6, hf⟩ := zz_vo hf
    refine zz_callVv C (As := [.int v1, .int 2, .int 0]) (rest := []) (zz_Mv_e e6 (zc_X5_set (b + 4) (zz_Plt hz (by decide)) _ _ _ _)) (cwV 3 hts gX2_noteTrack_X5_set rfl rfl rfl zd_X5_set ⟨Nat.le_of_ble_eq_true rfl, Nat.le_of_ble_eq_true rfl⟩) hP hS (9 + (b + 4)) (zz_c_tab (zz_Plt hz (by decide))) rfl rfl hl rfl (Nat.le_of_ble_eq_true rfl) dX2_noteTrack_50 ⟨Nat.zero_le _, Nat.zero_le _⟩ (fun H locs hP hS => ?_)
    rw [← hf]
    exact zz_retv C hr hP hS dX2_noteTrack_53
  · rw [zz_if1 (zz_b1 h)] at hf
    refine lv_iconst (v := 1) hx hb dX2_noteTrack_45 (by decide) ?_
    refine lv_goto (tgt := 50) hx hb dX2_noteTrack_46 (by decide) ?_
    obtain ⟨st7, e8, hf⟩ := zz_vo hf
    refine zz_callVv C (As := [.int v1, .int 2, .int 1]) (rest := []) (zz_Mv_e e8 (zc_X5_set (b + 4) (zz_Plt hz (by decide)) _ _ _ _)) (cwV 3 hts gX2_noteTrack_X5_set rfl rfl rfl zd_X5_set ⟨Nat.le_of_ble_eq_true rfl, Nat.le_of_ble_eq_true rfl⟩) hP hS (9 + (b + 4)) (zz_c_tab (zz_Plt hz (by decide))) rfl rfl hl rfl (Nat.le_of_ble_eq_true rfl) dX2_noteTrack_50 ⟨Nat.zero_le _, Nat.zero_le _⟩ (fun H locs hP hS => ?_)
    rw [← hf]
    exact zz_retv C hr hP hS dX2_noteTrack_53
