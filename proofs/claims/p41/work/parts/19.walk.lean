/-! X8_supply PX -/
abbrev zr_X8_supplyx : Room := { frames := 6, cells := 1, slots := 6, locals := 102 }
theorem zj_X8_supply_IA : Cond.classLink yX8_supply.cls 77 "java/lang/IllegalArgumentException" ∈ wsX8_supply ∧ Cond.initialized "java/lang/IllegalArgumentException" ∈ wsX8_supply ∧ (∀ w ∈ vx_atS yX8_supply.cls 81 "java/lang/IllegalArgumentException" ["java/lang/RuntimeException", "java/lang/Exception"], w ∈ wsX8_supply ∨ w ∈ zz_bad) ∧ ∀ w ∈ Cond.classLink yX8_supply.cls 77 "java/lang/IllegalArgumentException" :: Cond.initialized "java/lang/IllegalArgumentException" :: vx_atS yX8_supply.cls 81 "java/lang/IllegalArgumentException" ["java/lang/RuntimeException", "java/lang/Exception"], vx_ot w = true := by decide +kernel
theorem zj_X8_supply_IO : Cond.classLink yX8_supply.cls 105 "java/lang/IndexOutOfBoundsException" ∈ wsX8_supply ∧ Cond.initialized "java/lang/IndexOutOfBoundsException" ∈ wsX8_supply ∧ (∀ w ∈ vx_atS yX8_supply.cls 109 "java/lang/IndexOutOfBoundsException" ["java/lang/RuntimeException", "java/lang/Exception"], w ∈ wsX8_supply ∨ w ∈ zz_bad) ∧ ∀ w ∈ Cond.classLink yX8_supply.cls 105 "java/lang/IndexOutOfBoundsException" :: Cond.initialized "java/lang/IndexOutOfBoundsException" :: vx_atS yX8_supply.cls 109 "java/lang/IndexOutOfBoundsException" ["java/lang/RuntimeException", "java/lang/Exception"], vx_ot w = true := by decide +kernel
theorem zj_X8_supply_IS : Cond.classLink yX8_supply.cls 92 "java/lang/IllegalStateException" ∈ wsX8_supply ∧ Cond.initialized "java/lang/IllegalStateException" ∈ wsX8_supply ∧ (∀ w ∈ vx_atS yX8_supply.cls 96 "java/lang/IllegalStateException" ["java/lang/RuntimeException", "java/lang/Exception"], w ∈ wsX8_supply ∨ w ∈ zz_bad) ∧ ∀ w ∈ Cond.classLink yX8_supply.cls 92 "java/lang/IllegalStateException" :: Cond.initialized "java/lang/IllegalStateException" :: vx_atS yX8_supply.cls 96 "java/lang/IllegalStateException" ["java/lang/RuntimeException", "java/lang/Exception"], vx_ot w = true := by decide +kernel
def zX8_supplyx_161 (v1 : Int32) (v3 : Int32) (k0 : Int32) (st : zz_T) : Option (Option Int32 × zz_T) :=
  if k0 < 0 then
    some (some k0, st)
  else
    zz_v (zX2_copyFrom 6 11 st) fun st10 =>
    zz_v (zX4_send v3 v1 st10) fun st12 =>
    some (some k0, st12)
set_option maxHeartbeats 4000000 in
set_option maxRecDepth 100000 in
theorem zt_X8_supplyx_161 {l : Launch} {A : Nat → Prop} {D : va_G} {cI : ClassId} {q : Nat → Nat} {p : Program} {e : Env} {s : State} {m : MethodId} {args : Array Value} {below : List Frame} {meth : Method} {c : Code} (C : zz_C A D cI q p s m args meth c cX8_supply 7 wsX8_supply yX8_supply.cls) (hr : meth.sig.returnType = some .int) (hst : l.stackTraces = false) (hxt : ∀ x ∈ c.exceptionTable.toList, False) : ∀ (v1 : Int32) (v3 : Int32) (k0 : Int32) (st : zz_T) (H : Heap) (locs : List Loc) (ls : Array Slot) (r : (Option Int32 × zz_T)), zX8_supplyx_161 v1 v3 k0 st = some r → va_P D vwCl (zz_c q cI st) H → va_S A s.heap H locs → lv_has ls 7 [(0, .ref (q 0)), (1, .int v1), (3, .int v3)] → W p l e zr_X8_supplyx s m args below meth c H locs 0 0 (zz_Qx A D cI q r below args s) (F0 m 161 ls [.int k0]) := by
  obtain ⟨hx, hb, hml, hown, hts⟩ := id C.1
  intro v1 v3 k0 st H locs ls r hf hP hS hl
  rw [zX8_supplyx_161] at hf
  refine lv_istore (lv' := [(6, .int k0), (0, .ref (q 0)), (1, .int v1), (3, .int v3)]) hx hb dX8_supply_161 hl (by decide) rfl (fun ls hl => ?_)
  refine lv_iload hx hb dX8_supply_163 (lv_at hl 0 rfl) ?_
  refine lv_if_lt (tgt := 188) hx hb dX8_supply_165 (by decide) (fun h => ?_) (fun h => ?_)
  · rw [if_pos h] at hf
    refine lv_iload hx hb dX8_supply_188 (lv_at hl 0 rfl) ?_
    rw [← (Option.some.inj hf)]
    exact zz_retxi C hr hP hS dX8_supply_190
  · rw [if_neg h] at hf
    refine lv_aload_n hx hb dX8_supply_168 rfl (lv_at hl 1 rfl) ?_
    refine zz_getf C zi_X8_supply_X8 hP 0 rfl rfl 2 (nm := "paths") (ds := "LThirteenthDay$Paths;") (fin := true) rfl (by decide) zk_X8_supply_26 rfl dX8_supply_169 ?_
    refine lv_aload_n hx hb dX8_supply_172 rfl (lv_at hl 1 rfl) ?_
    refine zz_getf C zi_X8_supply_X8 hP 0 rfl rfl 3 (nm := "trial") (ds := "LThirteenthDay$Paths;") (fin := true) rfl (by decide) zk_X8_supply_30 rfl dX8_supply_173 ?_
    obtain ⟨st10, e11, hf⟩ := zz_vo hf
    refine zz_callVv C (As := [.ref (q 4)]) (rest := []) (zz_Mv_e e11 (zc_X2_copyFrom 3 6 (by decide) 4 11 (by decide) (by decide) _)) (cwV 1 hts gX8_supply_X2_copyFrom rfl rfl rfl zd_X2_copyFrom ⟨Nat.le_of_ble_eq_true rfl, Nat.le_of_ble_eq_true rfl⟩) hP hS 3 rfl rfl rfl hl rfl (Nat.le_of_ble_eq_true rfl) dX8_supply_176 ⟨Nat.zero_le _, Nat.zero_le _⟩ (fun H locs hP hS => ?_)
    refine lv_aload_n hx hb dX8_supply_179 rfl (lv_at hl 1 rfl) ?_
    refine zz_getf C zi_X8_supply_X8 hP 0 rfl rfl 5 (nm := "supplies") (ds := "LThirteenthDay$Supplies;") (fin := true) rfl (by decide) zk_X8_supply_43 rfl dX8_supply_180 ?_
    refine lv_iload_n hx hb dX8_supply_183 rfl (lv_at hl 3 rfl) ?_
    refine lv_iload_n hx hb dX8_supply_184 rfl (lv_at hl 2 rfl) ?_
    obtain ⟨st12, e13, hf⟩ := zz_vo hf
    refine zz_callVv C (As := [.int v3, .int v1]) (rest := []) (zz_Mv_e e13 (zc_X4_send _ _ _)) (cwV 2 hts gX8_supply_X4_send rfl rfl rfl zd_X4_send ⟨Nat.le_of_ble_eq_true rfl, Nat.le_of_ble_eq_true rfl⟩) hP hS 6 rfl rfl rfl hl rfl (Nat.le_of_ble_eq_true rfl) dX8_supply_185 ⟨Nat.zero_le _, Nat.zero_le _⟩ (fun H locs hP hS => ?_)
    refine lv_iload hx hb dX8_supply_188 (lv_at hl 0 rfl) ?_
    rw [← (Option.some.inj hf)]
    exact zz_retxi C hr hP hS dX8_supply_190
def zX8_supplyx (v1 : Int32) (v2 : Int32) (st : zz_T) : Option (Option Int32 × zz_T) :=
  if (zX8_isNoSector v1 st) = true then
    some (none, st)
  else
    if (zX8_isNoTickToPlan v2 st) = true then
      some (none, st)
    else
      if (zX3_get v1 0 st) = (-1) then
        some (none, st)
      else
        (zX4_freeRow st).bind fun x1 =>
        if x1 = (-1) then
          some (none, st)
        else
          zz_v (zX2_slotOfSupply x1 st) fun w3 =>
          zz_v (zX2_copyFrom 11 6 st) fun st4 =>
          zz_v (zX2_describe 11 w3 v1 (zX3_get v1 0 st4) 3 st4) fun st6 =>
          (zX2_lay 11 w3 0 st6).bind fun x8 =>
          if x8.1 = true then
            (zX2_findStart 11 w3 v2 (v2 + 288) x8.2).bind fun x14 =>
            zX8_supplyx_161 v1 x1 x14.1 x14.2
          else
            zX8_supplyx_161 v1 x1 (-2) x8.2
set_option maxHeartbeats 4000000 in
set_option maxRecDepth 100000 in
theorem zx_X8_supply {l : Launch} {A : Nat → Prop} {D : va_G} {cI : ClassId} {q : Nat → Nat} (hst : l.stackTraces = false) (v1 : Int32) (v2 : Int32) (st : zz_T) (r : (Option Int32 × zz_T)) (hf : zX8_supplyx v1 v2 st = some r) : zz_Mx l A D cI q yX8_supply wsX8_supply zr_X8_supplyx [.ref (q 0), .int v1, .int v2] st r := by
  refine zz_ofx (cc := cX8_supply) (nL := 7) (ret := some .int) (by decide) rfl (Nat.le_of_ble_eq_true rfl) ?_
  intro p e s m args below meth c ls C hr hxt hP hS hl
  obtain ⟨hx, hb, hml, hown, hts⟩ := id C.1
  have hl : lv_has ls 7 [(0, .ref (q 0)), (1, .int v1), (2, .int v2)] := hl
  rw [zX8_supplyx] at hf
  skip
  refine lv_iload_n hx hb dX8_supply_0 rfl (lv_at hl 1 rfl) ?_
  refine zz_callSi C (As := [.int v1]) (rest := []) (zc_X8_isNoSector _ _) (va_cwS 1 hts gX8_supply_X8_isNoSector rfl rfl rfl zd_X8_isNoSector.2 ⟨Nat.le_of_ble_eq_true rfl, Nat.le_of_ble_eq_true rfl⟩) hP hS rfl hl rfl (Nat.le_of_ble_eq_true rfl) dX8_supply_1 ⟨Nat.zero_le _, Nat.zero_le _⟩ (fun H locs hP hS => ?_)
  refine lv_if_eq (tgt := 17) hx hb dX8_supply_4 (by decide) (fun h => ?_) (fun h => ?_)
  · rw [zz_if0 (zz_b0 h)] at hf
    refine lv_aload_n hx hb dX8_supply_17 rfl (lv_at hl 0 rfl) ?_
    refine lv_iload_n hx hb dX8_supply_18 rfl (lv_at hl 2 rfl) ?_
    refine zz_callVi C (As := [.int v2]) (rest := []) (zc_X8_isNoTickToPlan _ _) (cwV 1 hts gX8_supply_X8_isNoTickToPlan rfl rfl rfl zd_X8_isNoTickToPlan ⟨Nat.le_of_ble_eq_true rfl, Nat.le_of_ble_eq_true rfl⟩) hP hS 0 rfl rfl rfl hl rfl (Nat.le_of_ble_eq_true rfl) dX8_supply_19 ⟨Nat.zero_le _, Nat.zero_le _⟩ (fun H locs hP hS => ?_)
    refine lv_if_eq (tgt := 35) hx hb dX8_supply_22 (by decide) (fun h => ?_) (fun h => ?_)
    · rw [zz_if0 (zz_b0 h)] at hf
      refine lv_aload_n hx hb dX8_supply_35 rfl (lv_at hl 0 rfl) ?_
      refine zz_getf C zi_X8_supply_X8 hP 0 rfl rfl 6 (nm := "sectors") (ds := "LThirteenthDay$Sectors;") (fin := true) rfl (by decide) zk_X8_supply_50 rfl dX8_supply_36 ?_
      refine lv_iload_n hx hb dX8_supply_39 rfl (lv_at hl 1 rfl) ?_
      refine lv_iconst (v := 0) hx hb dX8_supply_40 (by decide) ?_
      refine zz_callVi C (As := [.int v1, .int 0]) (rest := []) (zc_X3_get _ _ _) (cwV 2 hts gX8_supply_X3_get rfl rfl rfl zd_X3_get ⟨Nat.le_of_ble_eq_true rfl, Nat.le_of_ble_eq_true rfl⟩) hP hS 7 rfl rfl rfl hl rfl (Nat.le_of_ble_eq_true rfl) dX8_supply_41 ⟨Nat.zero_le _, Nat.zero_le _⟩ (fun H locs hP hS => ?_)
      refine lv_iconst (v := (-1)) hx hb dX8_supply_44 (by decide) ?_
      refine lv_icmp_ne (tgt := 59) hx hb dX8_supply_45 (by decide) (fun h => ?_) (fun h => ?_)
      · rw [if_neg h] at hf
        refine lv_aload_n hx hb dX8_supply_59 rfl (lv_at hl 0 rfl) ?_
        refine zz_getf C zi_X8_supply_X8 hP 0 rfl rfl 5 (nm := "supplies") (ds := "LThirteenthDay$Supplies;") (fin := true) rfl (by decide) zk_X8_supply_43 rfl dX8_supply_60 ?_
        obtain ⟨x1, e2, hf⟩ := zz_bo hf
        refine zz_callVi C (As := []) (rest := []) (zc_X4_freeRow _ _ e2) (cwV 0 hts gX8_supply_X4_freeRow rfl rfl rfl zd_X4_freeRow ⟨Nat.le_of_ble_eq_true rfl, Nat.le_of_ble_eq_true rfl⟩) hP hS 6 rfl rfl rfl hl rfl (Nat.le_of_ble_eq_true rfl) dX8_supply_63 ⟨Nat.zero_le _, Nat.zero_le _⟩ (fun H locs hP hS => ?_)
        refine lv_istore_n (lv' := [(3, .int x1), (0, .ref (q 0)), (1, .int v1), (2, .int v2)]) hx hb dX8_supply_66 rfl hl (by decide) rfl (fun ls hl => ?_)
        refine lv_iload_n hx hb dX8_supply_67 rfl (lv_at hl 0 rfl) ?_
        refine lv_iconst (v := (-1)) hx hb dX8_supply_68 (by decide) ?_
        refine lv_icmp_ne (tgt := 83) hx hb dX8_supply_69 (by decide) (fun h => ?_) (fun h => ?_)
        · rw [if_neg h] at hf
          refine lv_iload_n hx hb dX8_supply_83 rfl (lv_at hl 0 rfl) ?_
          refine zz_callSi C (As := [.int x1]) (rest := []) (zc_X2_slotOfSupply _ _) (va_cwS 1 hts gX8_supply_X2_slotOfSupply rfl rfl rfl zd_X2_slotOfSupply.2 ⟨Nat.le_of_ble_eq_true rfl, Nat.le_of_ble_eq_true rfl⟩) hP hS rfl hl rfl (Nat.le_of_ble_eq_true rfl) dX8_supply_84 ⟨Nat.zero_le _, Nat.zero_le _⟩ (fun H locs hP hS => ?_)
          refine lv_topi (fun w3 e3 => ?_)
          replace hf := zz_vi hf e3
          refine lv_istore (lv' := [(4, .int w3), (3, .int x1), (0, .ref (q 0)), (1, .int v1), (2, .int v2)]) hx hb dX8_supply_87 hl (by decide) rfl (fun ls hl => ?_)
          refine lv_aload_n hx hb dX8_supply_89 rfl (lv_at hl 2 rfl) ?_
          refine zz_getf C zi_X8_supply_X8 hP 0 rfl rfl 3 (nm := "trial") (ds := "LThirteenthDay$Paths;") (fin := true) rfl (by decide) zk_X8_supply_30 rfl dX8_supply_90 ?_
          refine lv_aload_n hx hb dX8_supply_93 rfl (lv_at hl 2 rfl) ?_
          refine zz_getf C zi_X8_supply_X8 hP 0 rfl rfl 2 (nm := "paths") (ds := "LThirteenthDay$Paths;") (fin := true) rfl (by decide) zk_X8_supply_26 rfl dX8_supply_94 ?_
          obtain ⟨st4, e5, hf⟩ := zz_vo hf
          refine zz_callVv C (As := [.ref (q 3)]) (rest := []) (zz_Mv_e e5 (zc_X2_copyFrom 4 11 (by decide) 3 6 (by decide) (by decide) _)) (cwV 1 hts gX8_supply_X2_copyFrom rfl rfl rfl zd_X2_copyFrom ⟨Nat.le_of_ble_eq_true rfl, Nat.le_of_ble_eq_true rfl⟩) hP hS 4 rfl rfl rfl hl rfl (Nat.le_of_ble_eq_true rfl) dX8_supply_97 ⟨Nat.zero_le _, Nat.zero_le _⟩ (fun H locs hP hS => ?_)
          refine lv_aload_n hx hb dX8_supply_100 rfl (lv_at hl 2 rfl) ?_
          refine zz_getf C zi_X8_supply_X8 hP 0 rfl rfl 3 (nm := "trial") (ds := "LThirteenthDay$Paths;") (fin := true) rfl (by decide) zk_X8_supply_30 rfl dX8_supply_101 ?_
          refine lv_iload hx hb dX8_supply_104 (lv_at hl 0 rfl) ?_
          refine lv_iload_n hx hb dX8_supply_106 rfl (lv_at hl 3 rfl) ?_
          refine lv_aload_n hx hb dX8_supply_107 rfl (lv_at hl 2 rfl) ?_
          refine zz_getf C zi_X8_supply_X8 hP 0 rfl rfl 6 (nm := "sectors") (ds := "LThirteenthDay$Sectors;") (fin := true) rfl (by decide) zk_X8_supply_50 rfl dX8_supply_108 ?_
          refine lv_iload_n hx hb dX8_supply_111 rfl (lv_at hl 3 rfl) ?_
          refine lv_iconst (v := 0) hx hb dX8_supply_112 (by decide) ?_
          refine zz_callVi C (As := [.int v1, .int 0]) (rest := [.int v1, .int w3, .ref (q 4)]) (zc_X3_get _ _ _) (cwV 2 hts gX8_supply_X3_get rfl rfl rfl zd_X3_get ⟨Nat.le_of_ble_eq_true rfl, Nat.le_of_ble_eq_true rfl⟩) hP hS 7 rfl rfl rfl hl rfl (Nat.le_of_ble_eq_true rfl) dX8_supply_113 ⟨Nat.zero_le _, Nat.zero_le _⟩ (fun H locs hP hS => ?_)
          refine lv_iconst (v := 3) hx hb dX8_supply_116 (by decide) ?_
          obtain ⟨st6, e7, hf⟩ := zz_vo hf
          refine zz_callVv C (As := [.int w3, .int v1, .int (zX3_get v1 0 st4), .int 3]) (rest := []) (zz_Mv_e e7 (zc_X2_describe 4 11 (by decide) _ _ _ _ _)) (cwV 4 hts gX8_supply_X2_describe rfl rfl rfl zd_X2_describe ⟨Nat.le_of_ble_eq_true rfl, Nat.le_of_ble_eq_true rfl⟩) hP hS 4 rfl rfl rfl hl rfl (Nat.le_of_ble_eq_true rfl) dX8_supply_117 ⟨Nat.zero_le _, Nat.zero_le _⟩ (fun H locs hP hS => ?_)
          refine lv_aload_n hx hb dX8_supply_120 rfl (lv_at hl 2 rfl) ?_
          refine zz_getf C zi_X8_supply_X8 hP 0 rfl rfl 3 (nm := "trial") (ds := "LThirteenthDay$Paths;") (fin := true) rfl (by decide) zk_X8_supply_30 rfl dX8_supply_121 ?_
          refine lv_iload hx hb dX8_supply_124 (lv_at hl 0 rfl) ?_
          refine lv_iconst (v := 0) hx hb dX8_supply_126 (by decide) ?_
          refine lv_aload_n hx hb dX8_supply_127 rfl (lv_at hl 2 rfl) ?_
          refine zz_getf C zi_X8_supply_X8 hP 0 rfl rfl 0 (nm := "land") (ds := "LThirteenthDay$Land;") (fin := true) rfl (by decide) zk_X8_supply_10 rfl dX8_supply_128 ?_
          obtain ⟨x8, e9, hf⟩ := zz_bo hf
          refine zz_callVi C (As := [.int w3, .int 0, .ref (q 1)]) (rest := []) (zc_X2_lay 4 11 (by decide) _ _ _ _ e9) (cwV 3 hts gX8_supply_X2_lay rfl rfl rfl zd_X2_lay ⟨Nat.le_of_ble_eq_true rfl, Nat.le_of_ble_eq_true rfl⟩) hP hS 4 rfl rfl rfl hl rfl (Nat.le_of_ble_eq_true rfl) dX8_supply_131 ⟨Nat.zero_le _, Nat.zero_le _⟩ (fun H locs hP hS => ?_)
          refine lv_istore (lv' := [(5, .int (zz_b x8.1)), (4, .int w3), (3, .int x1), (0, .ref (q 0)), (1, .int v1), (2, .int v2)]) hx hb dX8_supply_134 hl (by decide) rfl (fun ls hl => ?_)
          refine lv_iload hx hb dX8_supply_136 (lv_at hl 0 rfl) ?_
          refine lv_if_eq (tgt := 159) hx hb dX8_supply_138 (by decide) (fun h => ?_) (fun h => ?_)
          · rw [zz_if0 (zz_b0 h)] at hf
            refine lv_bipush (v := (-2)) hx hb dX8_supply_159 (by decide) ?_
            exact zt_X8_supplyx_161 C hr hst hxt _ _ _ _ _ _ _ _ hf hP hS (lv_sub hl [3, 4, 2] rfl)
          · rw [zz_if1 (zz_b1 h)] at hf
            refine lv_aload_n hx hb dX8_supply_141 rfl (lv_at hl 3 rfl) ?_
            refine zz_getf C zi_X8_supply_X8 hP 0 rfl rfl 3 (nm := "trial") (ds := "LThirteenthDay$Paths;") (fin := true) rfl (by decide) zk_X8_supply_30 rfl dX8_supply_142 ?_
            refine lv_iload hx hb dX8_supply_145 (lv_at hl 1 rfl) ?_
            refine lv_iload_n hx hb dX8_supply_147 rfl (lv_at hl 5 rfl) ?_
            refine lv_iload_n hx hb dX8_supply_148 rfl (lv_at hl 5 rfl) ?_
            refine lv_sipush (v := 288) hx hb dX8_supply_149 (by decide) ?_
            refine lv_iadd hx hb dX8_supply_152 ?_
            obtain ⟨x14, e15, hf⟩ := zz_bo hf
            refine zz_callVi C (As := [.int w3, .int v2, .int (v2 + 288)]) (rest := []) (zc_X2_findStart 4 11 (by decide) _ _ _ _ _ e15) (cwV 3 hts gX8_supply_X2_findStart rfl rfl rfl zd_X2_findStart ⟨Nat.le_of_ble_eq_true rfl, Nat.le_of_ble_eq_true rfl⟩) hP hS 4 rfl rfl rfl hl rfl (Nat.le_of_ble_eq_true rfl) dX8_supply_153 ⟨Nat.zero_le _, Nat.zero_le _⟩ (fun H locs hP hS => ?_)
            refine lv_goto (tgt := 161) hx hb dX8_supply_156 (by decide) ?_
            exact zt_X8_supplyx_161 C hr hst hxt _ _ _ _ _ _ _ _ hf hP hS (lv_sub hl [3, 4, 2] rfl)
        · rw [if_pos h] at hf
          rw [← (Option.some.inj hf)]
          exact zz_thrW C hst hP hS (cls := "java/lang/IllegalStateException") (text := "there are 6 SUPPLIES that are not DONE") (ik := 92) (is := 310) (ic := 96) (by decide +kernel) zj_X8_supply_IS.1 zj_X8_supply_IS.2.1 (by decide +kernel) zj_X8_supply_IS.2.2.1 zj_X8_supply_IS.2.2.2 (by decide) hl dX8_supply_72 dX8_supply_75 dX8_supply_76 dX8_supply_79 dX8_supply_82 hxt (by decide) (by decide) (by decide) (by decide)
      · rw [if_pos h] at hf
        rw [← (Option.some.inj hf)]
        exact zz_thrW C hst hP hS (cls := "java/lang/IllegalStateException") (text := "the SECTOR has no RAILHEAD") (ik := 92) (is := 305) (ic := 96) (by decide +kernel) zj_X8_supply_IS.1 zj_X8_supply_IS.2.1 (by decide +kernel) zj_X8_supply_IS.2.2.1 zj_X8_supply_IS.2.2.2 (by decide) hl dX8_supply_48 dX8_supply_51 dX8_supply_52 dX8_supply_55 dX8_supply_58 hxt (by decide) (by decide) (by decide) (by decide)
    · rw [zz_if1 (zz_b1 h)] at hf
      rw [← (Option.some.inj hf)]
      exact zz_thr C hst hP hS (cls := "java/lang/IllegalArgumentException") (text := "tick is less than TICK, or above 2880") (ik := 77) (is := 223) (ic := 81) (by decide +kernel) zj_X8_supply_IA.1 zj_X8_supply_IA.2.1 (by decide +kernel) zj_X8_supply_IA.2.2.1 zj_X8_supply_IA.2.2.2 (by decide) hl dX8_supply_25 dX8_supply_28 dX8_supply_29 dX8_supply_31 dX8_supply_34 hxt (by decide) (by decide) (by decide) (by decide)
  · rw [zz_if1 (zz_b1 h)] at hf
    rw [← (Option.some.inj hf)]
    exact zz_thr C hst hP hS (cls := "java/lang/IndexOutOfBoundsException") (text := "sector is not 0 to 2") (ik := 105) (is := 165) (ic := 109) (by decide +kernel) zj_X8_supply_IO.1 zj_X8_supply_IO.2.1 (by decide +kernel) zj_X8_supply_IO.2.2.1 zj_X8_supply_IO.2.2.2 (by decide) hl dX8_supply_7 dX8_supply_10 dX8_supply_11 dX8_supply_13 dX8_supply_16 hxt (by decide) (by decide) (by decide) (by decide)
/-! X8_bridge PX -/
abbrev zr_X8_bridgex : Room := { frames := 6, cells := 1, slots := 6, locals := 118 }
theorem zj_X8_bridge_IO : Cond.classLink yX8_bridge.cls 105 "java/lang/IndexOutOfBoundsException" ∈ wsX8_bridge ∧ Cond.initialized "java/lang/IndexOutOfBoundsException" ∈ wsX8_bridge ∧ (∀ w ∈ vx_atS yX8_bridge.cls 109 "java/lang/IndexOutOfBoundsException" ["java/lang/RuntimeException", "java/lang/Exception"], w ∈ wsX8_bridge ∨ w ∈ zz_bad) ∧ ∀ w ∈ Cond.classLink yX8_bridge.cls 105 "java/lang/IndexOutOfBoundsException" :: Cond.initialized "java/lang/IndexOutOfBoundsException" :: vx_atS yX8_bridge.cls 109 "java/lang/IndexOutOfBoundsException" ["java/lang/RuntimeException", "java/lang/Exception"], vx_ot w = true := by decide +kernel
def zX8_bridgex (v1 : Int32) (st : zz_T) : Option (Option Int32 × zz_T) :=
  if (zX1_hasLine v1 st) = true then
    (zX1_turnBridge v1 st).bind fun x1 =>
    some (some (zz_b x1.1), x1.2)
  else
    some (none, st)
set_option maxHeartbeats 4000000 in
set_option maxRecDepth 100000 in
theorem zx_X8_bridge {l : Launch} {A : Nat → Prop} {D : va_G} {cI : ClassId} {q : Nat → Nat} (hst : l.stackTraces = false) (v1 : Int32) (st : zz_T) (r : (Option Int32 × zz_T)) (hf : zX8_bridgex v1 st = some r) : zz_Mx l A D cI q yX8_bridge wsX8_bridge zr_X8_bridgex [.ref (q 0), .int v1] st r := by
  refine zz_ofx (cc := cX8_bridge) (nL := 2) (ret := some .boolean) (by decide) rfl (Nat.le_of_ble_eq_true rfl) ?_
  intro p e s m args below meth c ls C hr hxt hP hS hl
  obtain ⟨hx, hb, hml, hown, hts⟩ := id C.1
  have hl : lv_has ls 2 [(0, .ref (q 0)), (1, .int v1)] := hl
  rw [zX8_bridgex] at hf
  skip
  refine lv_aload_n hx hb dX8_bridge_0 rfl (lv_at hl 0 rfl) ?_
  refine zz_getf C zi_X8_bridge_X8 hP 0 rfl rfl 0 (nm := "land") (ds := "LThirteenthDay$Land;") (fin := true) rfl (by decide) zk_X8_bridge_10 rfl dX8_bridge_1 ?_
  refine lv_iload_n hx hb dX8_bridge_4 rfl (lv_at hl 1 rfl) ?_
  refine zz_callVi C (As := [.int v1]) (rest := []) (zc_X1_hasLine _ _) (cwV 1 hts gX8_bridge_X1_hasLine rfl rfl rfl zd_X1_hasLine ⟨Nat.le_of_ble_eq_true rfl, Nat.le_of_ble_eq_true rfl⟩) hP hS 1 rfl rfl rfl hl rfl (Nat.le_of_ble_eq_true rfl) dX8_bridge_5 ⟨Nat.zero_le _, Nat.zero_le _⟩ (fun H locs hP hS => ?_)
  refine lv_if_ne (tgt := 21) hx hb dX8_bridge_8 (by decide) (fun h => ?_) (fun h => ?_)
  · rw [zz_if1 (zz_b1 h)] at hf
    refine lv_aload_n hx hb dX8_bridge_21 rfl (lv_at hl 0 rfl) ?_
    refine zz_getf C zi_X8_bridge_X8 hP 0 rfl rfl 0 (nm := "land") (ds := "LThirteenthDay$Land;") (fin := true) rfl (by decide) zk_X8_bridge_10 rfl dX8_bridge_22 ?_
    refine lv_iload_n hx hb dX8_bridge_25 rfl (lv_at hl 1 rfl) ?_
    obtain ⟨x1, e2, hf⟩ := zz_bo hf
    refine zz_callVi C (As := [.int v1]) (rest := []) (zc_X1_turnBridge _ _ _ e2) (cwV 1 hts gX8_bridge_X1_turnBridge rfl rfl rfl zd_X1_turnBridge ⟨Nat.le_of_ble_eq_true rfl, Nat.le_of_ble_eq_true rfl⟩) hP hS 1 rfl rfl rfl hl rfl (Nat.le_of_ble_eq_true rfl) dX8_bridge_26 ⟨Nat.zero_le _, Nat.zero_le _⟩ (fun H locs hP hS => ?_)
    rw [← (Option.some.inj hf)]
    exact zz_retxz (v := x1.1) C hr hP hS dX8_bridge_29
  · rw [zz_if0 (zz_b0 h)] at hf
    rw [← (Option.some.inj hf)]
    exact zz_thr C hst hP hS (cls := "java/lang/IndexOutOfBoundsException") (text := "no such LINE") (ik := 105) (is := 135) (ic := 109) (by decide +kernel) zj_X8_bridge_IO.1 zj_X8_bridge_IO.2.1 (by decide +kernel) zj_X8_bridge_IO.2.2.1 zj_X8_bridge_IO.2.2.2 (by decide) hl dX8_bridge_11 dX8_bridge_14 dX8_bridge_15 dX8_bridge_17 dX8_bridge_20 hxt (by decide) (by decide) (by decide) (by decide)
/-! X8_foul PX -/
abbrev zr_X8_foulx : Room := { frames := 6, cells := 1, slots := 6, locals := 96 }
theorem zj_X8_foul_IA : Cond.classLink yX8_foul.cls 77 "java/lang/IllegalArgumentException" ∈ wsX8_foul ∧ Cond.initialized "java/lang/IllegalArgumentException" ∈ wsX8_foul ∧ (∀ w ∈ vx_atS yX8_foul.cls 81 "java/lang/IllegalArgumentException" ["java/lang/RuntimeException", "java/lang/Exception"], w ∈ wsX8_foul ∨ w ∈ zz_bad) ∧ ∀ w ∈ Cond.classLink yX8_foul.cls 77 "java/lang/IllegalArgumentException" :: Cond.initialized "java/lang/IllegalArgumentException" :: vx_atS yX8_foul.cls 81 "java/lang/IllegalArgumentException" ["java/lang/RuntimeException", "java/lang/Exception"], vx_ot w = true := by decide +kernel
theorem zj_X8_foul_IO : Cond.classLink yX8_foul.cls 105 "java/lang/IndexOutOfBoundsException" ∈ wsX8_foul ∧ Cond.initialized "java/lang/IndexOutOfBoundsException" ∈ wsX8_foul ∧ (∀ w ∈ vx_atS yX8_foul.cls 109 "java/lang/IndexOutOfBoundsException" ["java/lang/RuntimeException", "java/lang/Exception"], w ∈ wsX8_foul ∨ w ∈ zz_bad) ∧ ∀ w ∈ Cond.classLink yX8_foul.cls 105 "java/lang/IndexOutOfBoundsException" :: Cond.initialized "java/lang/IndexOutOfBoundsException" :: vx_atS yX8_foul.cls 109 "java/lang/IndexOutOfBoundsException" ["java/lang/RuntimeException", "java/lang/Exception"], vx_ot w = true := by decide +kernel
def zX8_foulx (v1 : Int32) (v2 : Int32) (st : zz_T) : Option (Option Int32 × zz_T) :=
  if (zX1_hasStation v1 st) = true then
    if v2 < 0 then
      some (none, st)
    else
      if v2 ≤ 144 then
        zz_v (zX1_getStation v1 4 st) fun w1 =>
        zz_v (zX1_setStation v1 4 v2 st) fun st2 =>
        some (some w1, st2)
      else
        some (none, st)
  else
    some (none, st)
set_option maxHeartbeats 4000000 in
set_option maxRecDepth 100000 in
theorem zx_X8_foul {l : Launch} {A : Nat → Prop} {D : va_G} {cI : ClassId} {q : Nat → Nat} (hst : l.stackTraces = false) (v1 : Int32) (v2 : Int32) (st : zz_T) (r : (Option Int32 × zz_T)) (hf : zX8_foulx v1 v2 st = some r) : zz_Mx l A D cI q yX8_foul wsX8_foul zr_X8_foulx [.ref (q 0), .int v1, .int v2] st r := by
  refine zz_ofx (cc := cX8_foul) (nL := 4) (ret := some .int) (by decide) rfl (Nat.le_of_ble_eq_true rfl) ?_
  intro p e s m args below meth c ls C hr hxt hP hS hl
  obtain ⟨hx, hb, hml, hown, hts⟩ := id C.1
  have hl : lv_has ls 4 [(0, .ref (q 0)), (1, .int v1), (2, .int v2)] := hl
  rw [zX8_foulx] at hf
  skip
  refine lv_aload_n hx hb dX8_foul_0 rfl (lv_at hl 0 rfl) ?_
  refine zz_getf C zi_X8_foul_X8 hP 0 rfl rfl 0 (nm := "land") (ds := "LThirteenthDay$Land;") (fin := true) rfl (by decide) zk_X8_foul_10 rfl dX8_foul_1 ?_
  refine lv_iload_n hx hb dX8_foul_4 rfl (lv_at hl 1 rfl) ?_
  refine zz_callVi C (As := [.int v1]) (rest := []) (zc_X1_hasStation _ _) (cwV 1 hts gX8_foul_X1_hasStation rfl rfl rfl zd_X1_hasStation ⟨Nat.le_of_ble_eq_true rfl, Nat.le_of_ble_eq_true rfl⟩) hP hS 1 rfl rfl rfl hl rfl (Nat.le_of_ble_eq_true rfl) dX8_foul_5 ⟨Nat.zero_le _, Nat.zero_le _⟩ (fun H locs hP hS => ?_)
  refine lv_if_ne (tgt := 21) hx hb dX8_foul_8 (by decide) (fun h => ?_) (fun h => ?_)
  · rw [zz_if1 (zz_b1 h)] at hf
    refine lv_iload_n hx hb dX8_foul_21 rfl (lv_at hl 2 rfl) ?_
    refine lv_if_lt (tgt := 32) hx hb dX8_foul_22 (by decide) (fun h => ?_) (fun h => ?_)
    · rw [if_pos h] at hf
      rw [← (Option.some.inj hf)]
      exact zz_thrW C hst hP hS (cls := "java/lang/IllegalArgumentException") (text := "ticks is not 0 to 144") (ik := 77) (is := 288) (ic := 81) (by decide +kernel) zj_X8_foul_IA.1 zj_X8_foul_IA.2.1 (by decide +kernel) zj_X8_foul_IA.2.2.1 zj_X8_foul_IA.2.2.2 (by decide) hl dX8_foul_32 dX8_foul_35 dX8_foul_36 dX8_foul_39 dX8_foul_42 hxt (by decide) (by decide) (by decide) (by decide)
    · rw [if_neg h] at hf
      refine lv_iload_n hx hb dX8_foul_25 rfl (lv_at hl 2 rfl) ?_
      refine lv_sipush (v := 144) hx hb dX8_foul_26 (by decide) ?_
      refine lv_icmp_le (tgt := 43) hx hb dX8_foul_29 (by decide) (fun h => ?_) (fun h => ?_)
      · rw [if_pos h] at hf
        refine lv_aload_n hx hb dX8_foul_43 rfl (lv_at hl 0 rfl) ?_
        refine zz_getf C zi_X8_foul_X8 hP 0 rfl rfl 0 (nm := "land") (ds := "LThirteenthDay$Land;") (fin := true) rfl (by decide) zk_X8_foul_10 rfl dX8_foul_44 ?_
        refine lv_iload_n hx hb dX8_foul_47 rfl (lv_at hl 1 rfl) ?_
        refine lv_iconst (v := 4) hx hb dX8_foul_48 (by decide) ?_
        refine zz_callVi C (As := [.int v1, .int 4]) (rest := []) (zc_X1_getStation _ _ _) (cwV 2 hts gX8_foul_X1_getStation rfl rfl rfl zd_X1_getStation ⟨Nat.le_of_ble_eq_true rfl, Nat.le_of_ble_eq_true rfl⟩) hP hS 1 rfl rfl rfl hl rfl (Nat.le_of_ble_eq_true rfl) dX8_foul_49 ⟨Nat.zero_le _, Nat.zero_le _⟩ (fun H locs hP hS => ?_)
        refine lv_topi (fun w1 e1 => ?_)
        replace hf := zz_vi hf e1
        refine lv_istore_n (lv' := [(3, .int w1), (0, .ref (q 0)), (1, .int v1), (2, .int v2)]) hx hb dX8_foul_52 rfl hl (by decide) rfl (fun ls hl => ?_)
        refine lv_aload_n hx hb dX8_foul_53 rfl (lv_at hl 1 rfl) ?_
        refine zz_getf C zi_X8_foul_X8 hP 0 rfl rfl 0 (nm := "land") (ds := "LThirteenthDay$Land;") (fin := true) rfl (by decide) zk_X8_foul_10 rfl dX8_foul_54 ?_
        refine lv_iload_n hx hb dX8_foul_57 rfl (lv_at hl 2 rfl) ?_
        refine lv_iconst (v := 4) hx hb dX8_foul_58 (by decide) ?_
        refine lv_iload_n hx hb dX8_foul_59 rfl (lv_at hl 3 rfl) ?_
        obtain ⟨st2, e3, hf⟩ := zz_vo hf
        refine zz_callVv C (As := [.int v1, .int 4, .int v2]) (rest := []) (zz_Mv_e e3 (zc_X1_setStation _ _ _ _)) (cwV 3 hts gX8_foul_X1_setStation rfl rfl rfl zd_X1_setStation ⟨Nat.le_of_ble_eq_true rfl, Nat.le_of_ble_eq_true rfl⟩) hP hS 1 rfl rfl rfl hl rfl (Nat.le_of_ble_eq_true rfl) dX8_foul_60 ⟨Nat.zero_le _, Nat.zero_le _⟩ (fun H locs hP hS => ?_)
        refine lv_iload_n hx hb dX8_foul_63 rfl (lv_at hl 0 rfl) ?_
        rw [← (Option.some.inj hf)]
        exact zz_retxi C hr hP hS dX8_foul_64
      · rw [if_neg h] at hf
        rw [← (Option.some.inj hf)]
        exact zz_thrW C hst hP hS (cls := "java/lang/IllegalArgumentException") (text := "ticks is not 0 to 144") (ik := 77) (is := 288) (ic := 81) (by decide +kernel) zj_X8_foul_IA.1 zj_X8_foul_IA.2.1 (by decide +kernel) zj_X8_foul_IA.2.2.1 zj_X8_foul_IA.2.2.2 (by decide) hl dX8_foul_32 dX8_foul_35 dX8_foul_36 dX8_foul_39 dX8_foul_42 hxt (by decide) (by decide) (by decide) (by decide)
  · rw [zz_if0 (zz_b0 h)] at hf
    rw [← (Option.some.inj hf)]
    exact zz_thr C hst hP hS (cls := "java/lang/IndexOutOfBoundsException") (text := "no such STATION") (ik := 105) (is := 107) (ic := 109) (by decide +kernel) zj_X8_foul_IO.1 zj_X8_foul_IO.2.1 (by decide +kernel) zj_X8_foul_IO.2.2.1 zj_X8_foul_IO.2.2.2 (by decide) hl dX8_foul_11 dX8_foul_14 dX8_foul_15 dX8_foul_17 dX8_foul_20 hxt (by decide) (by decide) (by decide) (by decide)
/-! X8_box PX -/
abbrev zr_X8_boxx : Room := { frames := 6, cells := 1, slots := 6, locals := 96 }
theorem zj_X8_box_IA : Cond.classLink yX8_box.cls 77 "java/lang/IllegalArgumentException" ∈ wsX8_box ∧ Cond.initialized "java/lang/IllegalArgumentException" ∈ wsX8_box ∧ (∀ w ∈ vx_atS yX8_box.cls 81 "java/lang/IllegalArgumentException" ["java/lang/RuntimeException", "java/lang/Exception"], w ∈ wsX8_box ∨ w ∈ zz_bad) ∧ ∀ w ∈ Cond.classLink yX8_box.cls 77 "java/lang/IllegalArgumentException" :: Cond.initialized "java/lang/IllegalArgumentException" :: vx_atS yX8_box.cls 81 "java/lang/IllegalArgumentException" ["java/lang/RuntimeException", "java/lang/Exception"], vx_ot w = true := by decide +kernel
theorem zj_X8_box_IO : Cond.classLink yX8_box.cls 105 "java/lang/IndexOutOfBoundsException" ∈ wsX8_box ∧ Cond.initialized "java/lang/IndexOutOfBoundsException" ∈ wsX8_box ∧ (∀ w ∈ vx_atS yX8_box.cls 109 "java/lang/IndexOutOfBoundsException" ["java/lang/RuntimeException", "java/lang/Exception"], w ∈ wsX8_box ∨ w ∈ zz_bad) ∧ ∀ w ∈ Cond.classLink yX8_box.cls 105 "java/lang/IndexOutOfBoundsException" :: Cond.initialized "java/lang/IndexOutOfBoundsException" :: vx_atS yX8_box.cls 109 "java/lang/IndexOutOfBoundsException" ["java/lang/RuntimeException", "java/lang/Exception"], vx_ot w = true := by decide +kernel
theorem zj_X8_box_IS : Cond.classLink yX8_box.cls 92 "java/lang/IllegalStateException" ∈ wsX8_box ∧ Cond.initialized "java/lang/IllegalStateException" ∈ wsX8_box ∧ (∀ w ∈ vx_atS yX8_box.cls 96 "java/lang/IllegalStateException" ["java/lang/RuntimeException", "java/lang/Exception"], w ∈ wsX8_box ∨ w ∈ zz_bad) ∧ ∀ w ∈ Cond.classLink yX8_box.cls 92 "java/lang/IllegalStateException" :: Cond.initialized "java/lang/IllegalStateException" :: vx_atS yX8_box.cls 96 "java/lang/IllegalStateException" ["java/lang/RuntimeException", "java/lang/Exception"], vx_ot w = true := by decide +kernel
def zX8_boxx_74 (v1 : Int32) (v2 : Int32) (v3 : Int32) (st : zz_T) : Option (Option Int32 × zz_T) :=
  if v3 = 1 then
    zz_v (zX6_add v1 5 v2 st) fun st4 =>
    some (some (zX6_lateOf v1 (st4.2 0) st4), st4)
  else
    zz_v (zX6_add v1 6 v2 st) fun st2 =>
    some (some (zX6_lateOf v1 (st2.2 0) st2), st2)
set_option maxHeartbeats 4000000 in
set_option maxRecDepth 100000 in
theorem zt_X8_boxx_74 {l : Launch} {A : Nat → Prop} {D : va_G} {cI : ClassId} {q : Nat → Nat} {p : Program} {e : Env} {s : State} {m : MethodId} {args : Array Value} {below : List Frame} {meth : Method} {c : Code} (C : zz_C A D cI q p s m args meth c cX8_box 4 wsX8_box yX8_box.cls) (hr : meth.sig.returnType = some .int) (hst : l.stackTraces = false) (hxt : ∀ x ∈ c.exceptionTable.toList, False) : ∀ (v1 : Int32) (v2 : Int32) (v3 : Int32) (st : zz_T) (H : Heap) (locs : List Loc) (ls : Array Slot) (r : (Option Int32 × zz_T)), zX8_boxx_74 v1 v2 v3 st = some r → va_P D vwCl (zz_c q cI st) H → va_S A s.heap H locs → lv_has ls 4 [(0, .ref (q 0)), (1, .int v1), (2, .int v2), (3, .int v3)] → W p l e zr_X8_boxx s m args below meth c H locs 0 0 (zz_Qx A D cI q r below args s) (F0 m 74 ls []) := by
  obtain ⟨hx, hb, hml, hown, hts⟩ := id C.1
  intro v1 v2 v3 st H locs ls r hf hP hS hl
  rw [zX8_boxx_74] at hf
  refine lv_aload_n hx hb dX8_box_74 rfl (lv_at hl 0 rfl) ?_
  refine zz_getf C zi_X8_box_X8 hP 0 rfl rfl 4 (nm := "trains") (ds := "LThirteenthDay$Trains;") (fin := true) rfl (by decide) zk_X8_box_36 rfl dX8_box_75 ?_
  refine lv_iload_n hx hb dX8_box_78 rfl (lv_at hl 1 rfl) ?_
  refine lv_iload_n hx hb dX8_box_79 rfl (lv_at hl 3 rfl) ?_
  refine lv_iconst (v := 1) hx hb dX8_box_80 (by decide) ?_
  refine lv_icmp_ne (tgt := 88) hx hb dX8_box_81 (by decide) (fun h => ?_) (fun h => ?_)
  · rw [if_neg h] at hf
    refine lv_bipush (v := 6) hx hb dX8_box_88 (by decide) ?_
    refine lv_iload_n hx hb dX8_box_90 rfl (lv_at hl 2 rfl) ?_
    obtain ⟨st2, e3, hf⟩ := zz_vo hf
    refine zz_callVv C (As := [.int v1, .int 6, .int v2]) (rest := []) (zz_Mv_e e3 (zc_X6_add _ _ _ _)) (cwV 3 hts gX8_box_X6_add rfl rfl rfl zd_X6_add ⟨Nat.le_of_ble_eq_true rfl, Nat.le_of_ble_eq_true rfl⟩) hP hS 5 rfl rfl rfl hl rfl (Nat.le_of_ble_eq_true rfl) dX8_box_91 ⟨Nat.zero_le _, Nat.zero_le _⟩ (fun H locs hP hS => ?_)
    refine lv_aload_n hx hb dX8_box_94 rfl (lv_at hl 0 rfl) ?_
    refine zz_getf C zi_X8_box_X8 hP 0 rfl rfl 4 (nm := "trains") (ds := "LThirteenthDay$Trains;") (fin := true) rfl (by decide) zk_X8_box_36 rfl dX8_box_95 ?_
    refine lv_iload_n hx hb dX8_box_98 rfl (lv_at hl 1 rfl) ?_
    refine lv_aload_n hx hb dX8_box_99 rfl (lv_at hl 0 rfl) ?_
    refine zz_getf C zi_X8_box_X8 hP 0 rfl rfl 9 (nm := "tick") (ds := "I") (fin := false) rfl (by decide) zk_X8_box_70 rfl dX8_box_100 ?_
    refine zz_callVi C (As := [.int v1, .int (st2.2 0)]) (rest := []) (zc_X6_lateOf _ _ _) (cwV 2 hts gX8_box_X6_lateOf rfl rfl rfl zd_X6_lateOf ⟨Nat.le_of_ble_eq_true rfl, Nat.le_of_ble_eq_true rfl⟩) hP hS 5 rfl rfl rfl hl rfl (Nat.le_of_ble_eq_true rfl) dX8_box_103 ⟨Nat.zero_le _, Nat.zero_le _⟩ (fun H locs hP hS => ?_)
    rw [← (Option.some.inj hf)]
    exact zz_retxi C hr hP hS dX8_box_106
  · rw [if_pos h] at hf
    refine lv_iconst (v := 5) hx hb dX8_box_84 (by decide) ?_
    refine lv_goto (tgt := 90) hx hb dX8_box_85 (by decide) ?_
    refine lv_iload_n hx hb dX8_box_90 rfl (lv_at hl 2 rfl) ?_
    obtain ⟨st4, e5, hf⟩ := zz_vo hf
    refine zz_callVv C (As := [.int v1, .int 5, .int v2]) (rest := []) (zz_Mv_e e5 (zc_X6_add _ _ _ _)) (cwV 3 hts gX8_box_X6_add rfl rfl rfl zd_X6_add ⟨Nat.le_of_ble_eq_true rfl, Nat.le_of_ble_eq_true rfl⟩) hP hS 5 rfl rfl rfl hl rfl (Nat.le_of_ble_eq_true rfl) dX8_box_91 ⟨Nat.zero_le _, Nat.zero_le _⟩ (fun H locs hP hS => ?_)
    refine lv_aload_n hx hb dX8_box_94 rfl (lv_at hl 0 rfl) ?_
    refine zz_getf C zi_X8_box_X8 hP 0 rfl rfl 4 (nm := "trains") (ds := "LThirteenthDay$Trains;") (fin := true) rfl (by decide) zk_X8_box_36 rfl dX8_box_95 ?_
    refine lv_iload_n hx hb dX8_box_98 rfl (lv_at hl 1 rfl) ?_
    refine lv_aload_n hx hb dX8_box_99 rfl (lv_at hl 0 rfl) ?_
    refine zz_getf C zi_X8_box_X8 hP 0 rfl rfl 9 (nm := "tick") (ds := "I") (fin := false) rfl (by decide) zk_X8_box_70 rfl dX8_box_100 ?_
    refine zz_callVi C (As := [.int v1, .int (st4.2 0)]) (rest := []) (zc_X6_lateOf _ _ _) (cwV 2 hts gX8_box_X6_lateOf rfl rfl rfl zd_X6_lateOf ⟨Nat.le_of_ble_eq_true rfl, Nat.le_of_ble_eq_true rfl⟩) hP hS 5 rfl rfl rfl hl rfl (Nat.le_of_ble_eq_true rfl) dX8_box_103 ⟨Nat.zero_le _, Nat.zero_le _⟩ (fun H locs hP hS => ?_)
    rw [← (Option.some.inj hf)]
    exact zz_retxi C hr hP hS dX8_box_106
def zX8_boxx (v1 : Int32) (v2 : Int32) (st : zz_T) : Option (Option Int32 × zz_T) :=
  if (zX6_has v1 st) = true then
    if v2 < 1 then
      some (none, st)
    else
      if v2 ≤ 72 then
        zz_v (zX6_get v1 2 st) fun w1 =>
        if w1 = 0 then
          zX8_boxx_74 v1 v2 w1 st
        else
          if w1 = 1 then
            zX8_boxx_74 v1 v2 w1 st
          else
            some (none, st)
      else
        some (none, st)
  else
    some (none, st)
set_option maxHeartbeats 4000000 in
set_option maxRecDepth 100000 in
theorem zx_X8_box {l : Launch} {A : Nat → Prop} {D : va_G} {cI : ClassId} {q : Nat → Nat} (hst : l.stackTraces = false) (v1 : Int32) (v2 : Int32) (st : zz_T) (r : (Option Int32 × zz_T)) (hf : zX8_boxx v1 v2 st = some r) : zz_Mx l A D cI q yX8_box wsX8_box zr_X8_boxx [.ref (q 0), .int v1, .int v2] st r := by
  refine zz_ofx (cc := cX8_box) (nL := 4) (ret := some .int) (by decide) rfl (Nat.le_of_ble_eq_true rfl) ?_
  intro p e s m args below meth c ls C hr hxt hP hS hl
  obtain ⟨hx, hb, hml, hown, hts⟩ := id C.1
  have hl : lv_has ls 4 [(0, .ref (q 0)), (1, .int v1), (2, .int v2)] := hl
  rw [zX8_boxx] at hf
  skip
  refine lv_aload_n hx hb dX8_box_0 rfl (lv_at hl 0 rfl) ?_
  refine zz_getf C zi_X8_box_X8 hP 0 rfl rfl 4 (nm := "trains") (ds := "LThirteenthDay$Trains;") (fin := true) rfl (by decide) zk_X8_box_36 rfl dX8_box_1 ?_
  refine lv_iload_n hx hb dX8_box_4 rfl (lv_at hl 1 rfl) ?_
  refine zz_callVi C (As := [.int v1]) (rest := []) (zc_X6_has _ _) (cwV 1 hts gX8_box_X6_has rfl rfl rfl zd_X6_has ⟨Nat.le_of_ble_eq_true rfl, Nat.le_of_ble_eq_true rfl⟩) hP hS 5 rfl rfl rfl hl rfl (Nat.le_of_ble_eq_true rfl) dX8_box_5 ⟨Nat.zero_le _, Nat.zero_le _⟩ (fun H locs hP hS => ?_)
  refine lv_if_ne (tgt := 22) hx hb dX8_box_8 (by decide) (fun h => ?_) (fun h => ?_)
  · rw [zz_if1 (zz_b1 h)] at hf
    refine lv_iload_n hx hb dX8_box_22 rfl (lv_at hl 2 rfl) ?_
    refine lv_iconst (v := 1) hx hb dX8_box_23 (by decide) ?_
    refine lv_icmp_lt (tgt := 33) hx hb dX8_box_24 (by decide) (fun h => ?_) (fun h => ?_)
    · rw [if_pos h] at hf
      rw [← (Option.some.inj hf)]
      exact zz_thrW C hst hP hS (cls := "java/lang/IllegalArgumentException") (text := "ticks is not 1 to 72") (ik := 77) (is := 278) (ic := 81) (by decide +kernel) zj_X8_box_IA.1 zj_X8_box_IA.2.1 (by decide +kernel) zj_X8_box_IA.2.2.1 zj_X8_box_IA.2.2.2 (by decide) hl dX8_box_33 dX8_box_36 dX8_box_37 dX8_box_40 dX8_box_43 hxt (by decide) (by decide) (by decide) (by decide)
    · rw [if_neg h] at hf
      refine lv_iload_n hx hb dX8_box_27 rfl (lv_at hl 2 rfl) ?_
      refine lv_bipush (v := 72) hx hb dX8_box_28 (by decide) ?_
      refine lv_icmp_le (tgt := 44) hx hb dX8_box_30 (by decide) (fun h => ?_) (fun h => ?_)
      · rw [if_pos h] at hf
        refine lv_aload_n hx hb dX8_box_44 rfl (lv_at hl 0 rfl) ?_
        refine zz_getf C zi_X8_box_X8 hP 0 rfl rfl 4 (nm := "trains") (ds := "LThirteenthDay$Trains;") (fin := true) rfl (by decide) zk_X8_box_36 rfl dX8_box_45 ?_
        refine lv_iload_n hx hb dX8_box_48 rfl (lv_at hl 1 rfl) ?_
        refine lv_iconst (v := 2) hx hb dX8_box_49 (by decide) ?_
        refine zz_callVi C (As := [.int v1, .int 2]) (rest := []) (zc_X6_get _ _ _) (cwV 2 hts gX8_box_X6_get rfl rfl rfl zd_X6_get ⟨Nat.le_of_ble_eq_true rfl, Nat.le_of_ble_eq_true rfl⟩) hP hS 5 rfl rfl rfl hl rfl (Nat.le_of_ble_eq_true rfl) dX8_box_50 ⟨Nat.zero_le _, Nat.zero_le _⟩ (fun H locs hP hS => ?_)
        refine lv_topi (fun w1 e1 => ?_)
        replace hf := zz_vi hf e1
        refine lv_istore_n (lv' := [(3, .int w1), (0, .ref (q 0)), (1, .int v1), (2, .int v2)]) hx hb dX8_box_53 rfl hl (by decide) rfl (fun ls hl => ?_)
        refine lv_iload_n hx hb dX8_box_54 rfl (lv_at hl 0 rfl) ?_
        refine lv_if_eq (tgt := 74) hx hb dX8_box_55 (by decide) (fun h => ?_) (fun h => ?_)
        · rw [if_pos h] at hf
          exact zt_X8_boxx_74 C hr hst hxt _ _ _ _ _ _ _ _ hf hP hS (lv_sub hl [1, 2, 3, 0] rfl)
        · rw [if_neg h] at hf
          refine lv_iload_n hx hb dX8_box_58 rfl (lv_at hl 0 rfl) ?_
          refine lv_iconst (v := 1) hx hb dX8_box_59 (by decide) ?_
          refine lv_icmp_eq (tgt := 74) hx hb dX8_box_60 (by decide) (fun h => ?_) (fun h => ?_)
          · rw [if_pos h] at hf
            exact zt_X8_boxx_74 C hr hst hxt _ _ _ _ _ _ _ _ hf hP hS (lv_sub hl [1, 2, 3, 0] rfl)
          · rw [if_neg h] at hf
            rw [← (Option.some.inj hf)]
            exact zz_thrW C hst hP hS (cls := "java/lang/IllegalStateException") (text := "the TRAIN is unloaded now, or DONE") (ik := 92) (is := 281) (ic := 96) (by decide +kernel) zj_X8_box_IS.1 zj_X8_box_IS.2.1 (by decide +kernel) zj_X8_box_IS.2.2.1 zj_X8_box_IS.2.2.2 (by decide) hl dX8_box_63 dX8_box_66 dX8_box_67 dX8_box_70 dX8_box_73 hxt (by decide) (by decide) (by decide) (by decide)
      · rw [if_neg h] at hf
        rw [← (Option.some.inj hf)]
        exact zz_thrW C hst hP hS (cls := "java/lang/IllegalArgumentException") (text := "ticks is not 1 to 72") (ik := 77) (is := 278) (ic := 81) (by decide +kernel) zj_X8_box_IA.1 zj_X8_box_IA.2.1 (by decide +kernel) zj_X8_box_IA.2.2.1 zj_X8_box_IA.2.2.2 (by decide) hl dX8_box_33 dX8_box_36 dX8_box_37 dX8_box_40 dX8_box_43 hxt (by decide) (by decide) (by decide) (by decide)
  · rw [zz_if0 (zz_b0 h)] at hf
    rw [← (Option.some.inj hf)]
    exact zz_thrW C hst hP hS (cls := "java/lang/IndexOutOfBoundsException") (text := "no such TRAIN") (ik := 105) (is := 276) (ic := 109) (by decide +kernel) zj_X8_box_IO.1 zj_X8_box_IO.2.1 (by decide +kernel) zj_X8_box_IO.2.2.1 zj_X8_box_IO.2.2.2 (by decide) hl dX8_box_11 dX8_box_14 dX8_box_15 dX8_box_18 dX8_box_21 hxt (by decide) (by decide) (by decide) (by decide)
/-! X8_foe PX -/
abbrev zr_X8_foex : Room := { frames := 6, cells := 1, slots := 6, locals := 96 }
theorem zj_X8_foe_IA : Cond.classLink yX8_foe.cls 77 "java/lang/IllegalArgumentException" ∈ wsX8_foe ∧ Cond.initialized "java/lang/IllegalArgumentException" ∈ wsX8_foe ∧ (∀ w ∈ vx_atS yX8_foe.cls 81 "java/lang/IllegalArgumentException" ["java/lang/RuntimeException", "java/lang/Exception"], w ∈ wsX8_foe ∨ w ∈ zz_bad) ∧ ∀ w ∈ Cond.classLink yX8_foe.cls 77 "java/lang/IllegalArgumentException" :: Cond.initialized "java/lang/IllegalArgumentException" :: vx_atS yX8_foe.cls 81 "java/lang/IllegalArgumentException" ["java/lang/RuntimeException", "java/lang/Exception"], vx_ot w = true := by decide +kernel
theorem zj_X8_foe_IO : Cond.classLink yX8_foe.cls 105 "java/lang/IndexOutOfBoundsException" ∈ wsX8_foe ∧ Cond.initialized "java/lang/IndexOutOfBoundsException" ∈ wsX8_foe ∧ (∀ w ∈ vx_atS yX8_foe.cls 109 "java/lang/IndexOutOfBoundsException" ["java/lang/RuntimeException", "java/lang/Exception"], w ∈ wsX8_foe ∨ w ∈ zz_bad) ∧ ∀ w ∈ Cond.classLink yX8_foe.cls 105 "java/lang/IndexOutOfBoundsException" :: Cond.initialized "java/lang/IndexOutOfBoundsException" :: vx_atS yX8_foe.cls 109 "java/lang/IndexOutOfBoundsException" ["java/lang/RuntimeException", "java/lang/Exception"], vx_ot w = true := by decide +kernel
theorem zj_X8_foe_IS : Cond.classLink yX8_foe.cls 92 "java/lang/IllegalStateException" ∈ wsX8_foe ∧ Cond.initialized "java/lang/IllegalStateException" ∈ wsX8_foe ∧ (∀ w ∈ vx_atS yX8_foe.cls 96 "java/lang/IllegalStateException" ["java/lang/RuntimeException", "java/lang/Exception"], w ∈ wsX8_foe ∨ w ∈ zz_bad) ∧ ∀ w ∈ Cond.classLink yX8_foe.cls 92 "java/lang/IllegalStateException" :: Cond.initialized "java/lang/IllegalStateException" :: vx_atS yX8_foe.cls 96 "java/lang/IllegalStateException" ["java/lang/RuntimeException", "java/lang/Exception"], vx_ot w = true := by decide +kernel
def zX8_foex (v1 : Int32) (v2 : Int32) (v3 : Int32) (v4 : Int32) (st : zz_T) : Option (Option Int32 × zz_T) :=
  if (zX8_isNoFoePlan v1 st) = true then
    some (none, st)
  else
    if (zX8_isNoSector v2 st) = true then
      some (none, st)
    else
      if v3 ≤ (zX8_day st) then
        some (none, st)
      else
        if v3 ≤ 20 then
          if v4 < 1 then
            some (none, st)
          else
            if v4 ≤ 60 then
              if (zX0_countOf v1 st) < 6 then
                zz_v (zX0_add v1 v2 v3 v4 st) fun p1 =>
                some (some p1.1, p1.2)
              else
                some (none, st)
            else
              some (none, st)
        else
          some (none, st)
set_option maxHeartbeats 4000000 in
set_option maxRecDepth 100000 in
theorem zx_X8_foe {l : Launch} {A : Nat → Prop} {D : va_G} {cI : ClassId} {q : Nat → Nat} (hst : l.stackTraces = false) (v1 : Int32) (v2 : Int32) (v3 : Int32) (v4 : Int32) (st : zz_T) (r : (Option Int32 × zz_T)) (hf : zX8_foex v1 v2 v3 v4 st = some r) : zz_Mx l A D cI q yX8_foe wsX8_foe zr_X8_foex [.ref (q 0), .int v1, .int v2, .int v3, .int v4] st r := by
  refine zz_ofx (cc := cX8_foe) (nL := 5) (ret := some .int) (by decide) rfl (Nat.le_of_ble_eq_true rfl) ?_
  intro p e s m args below meth c ls C hr hxt hP hS hl
  obtain ⟨hx, hb, hml, hown, hts⟩ := id C.1
  have hl : lv_has ls 5 [(0, .ref (q 0)), (1, .int v1), (2, .int v2), (3, .int v3), (4, .int v4)] := hl
  rw [zX8_foex] at hf
  skip
  refine lv_iload_n hx hb dX8_foe_0 rfl (lv_at hl 1 rfl) ?_
  refine zz_callSi C (As := [.int v1]) (rest := []) (zc_X8_isNoFoePlan _ _) (va_cwS 1 hts gX8_foe_X8_isNoFoePlan rfl rfl rfl zd_X8_isNoFoePlan.2 ⟨Nat.le_of_ble_eq_true rfl, Nat.le_of_ble_eq_true rfl⟩) hP hS rfl hl rfl (Nat.le_of_ble_eq_true rfl) dX8_foe_1 ⟨Nat.zero_le _, Nat.zero_le _⟩ (fun H locs hP hS => ?_)
  refine lv_if_eq (tgt := 18) hx hb dX8_foe_4 (by decide) (fun h => ?_) (fun h => ?_)
  · rw [zz_if0 (zz_b0 h)] at hf
    refine lv_iload_n hx hb dX8_foe_18 rfl (lv_at hl 2 rfl) ?_
    refine zz_callSi C (As := [.int v2]) (rest := []) (zc_X8_isNoSector _ _) (va_cwS 1 hts gX8_foe_X8_isNoSector rfl rfl rfl zd_X8_isNoSector.2 ⟨Nat.le_of_ble_eq_true rfl, Nat.le_of_ble_eq_true rfl⟩) hP hS rfl hl rfl (Nat.le_of_ble_eq_true rfl) dX8_foe_19 ⟨Nat.zero_le _, Nat.zero_le _⟩ (fun H locs hP hS => ?_)
    refine lv_if_eq (tgt := 35) hx hb dX8_foe_22 (by decide) (fun h => ?_) (fun h => ?_)
    · rw [zz_if0 (zz_b0 h)] at hf
      refine lv_iload_n hx hb dX8_foe_35 rfl (lv_at hl 3 rfl) ?_
      refine lv_aload_n hx hb dX8_foe_36 rfl (lv_at hl 0 rfl) ?_
      refine zz_callVi C (As := []) (rest := [.int v3]) (zc_X8_day _) (cwV 0 hts gX8_foe_X8_day rfl rfl rfl zd_X8_day ⟨Nat.le_of_ble_eq_true rfl, Nat.le_of_ble_eq_true rfl⟩) hP hS 0 rfl rfl rfl hl rfl (Nat.le_of_ble_eq_true rfl) dX8_foe_37 ⟨Nat.zero_le _, Nat.zero_le _⟩ (fun H locs hP hS => ?_)
      refine lv_icmp_le (tgt := 49) hx hb dX8_foe_40 (by decide) (fun h => ?_) (fun h => ?_)
      · rw [if_pos h] at hf
        rw [← (Option.some.inj hf)]
        exact zz_thrW C hst hP hS (cls := "java/lang/IllegalArgumentException") (text := "day is not above DAY, or above 20") (ik := 77) (is := 337) (ic := 81) (by decide +kernel) zj_X8_foe_IA.1 zj_X8_foe_IA.2.1 (by decide +kernel) zj_X8_foe_IA.2.2.1 zj_X8_foe_IA.2.2.2 (by decide) hl dX8_foe_49 dX8_foe_52 dX8_foe_53 dX8_foe_56 dX8_foe_59 hxt (by decide) (by decide) (by decide) (by decide)
      · rw [if_neg h] at hf
        refine lv_iload_n hx hb dX8_foe_43 rfl (lv_at hl 3 rfl) ?_
        refine lv_bipush (v := 20) hx hb dX8_foe_44 (by decide) ?_
        refine lv_icmp_le (tgt := 60) hx hb dX8_foe_46 (by decide) (fun h => ?_) (fun h => ?_)
        · rw [if_pos h] at hf
          refine lv_iload hx hb dX8_foe_60 (lv_at hl 4 rfl) ?_
          refine lv_iconst (v := 1) hx hb dX8_foe_62 (by decide) ?_
          refine lv_icmp_lt (tgt := 73) hx hb dX8_foe_63 (by decide) (fun h => ?_) (fun h => ?_)
          · rw [if_pos h] at hf
            rw [← (Option.some.inj hf)]
            exact zz_thrW C hst hP hS (cls := "java/lang/IllegalArgumentException") (text := "strength is not 1 to 60") (ik := 77) (is := 339) (ic := 81) (by decide +kernel) zj_X8_foe_IA.1 zj_X8_foe_IA.2.1 (by decide +kernel) zj_X8_foe_IA.2.2.1 zj_X8_foe_IA.2.2.2 (by decide) hl dX8_foe_73 dX8_foe_76 dX8_foe_77 dX8_foe_80 dX8_foe_83 hxt (by decide) (by decide) (by decide) (by decide)
          · rw [if_neg h] at hf
            refine lv_iload hx hb dX8_foe_66 (lv_at hl 4 rfl) ?_
            refine lv_bipush (v := 60) hx hb dX8_foe_68 (by decide) ?_
            refine lv_icmp_le (tgt := 84) hx hb dX8_foe_70 (by decide) (fun h => ?_) (fun h => ?_)
            · rw [if_pos h] at hf
              refine lv_aload_n hx hb dX8_foe_84 rfl (lv_at hl 0 rfl) ?_
              refine zz_getf C zi_X8_foe_X8 hP 0 rfl rfl 7 (nm := "foes") (ds := "LThirteenthDay$Foes;") (fin := true) rfl (by decide) zk_X8_foe_57 rfl dX8_foe_85 ?_
              refine lv_iload_n hx hb dX8_foe_88 rfl (lv_at hl 1 rfl) ?_
              refine zz_callVi C (As := [.int v1]) (rest := []) (zc_X0_countOf _ _) (cwV 1 hts gX8_foe_X0_countOf rfl rfl rfl zd_X0_countOf ⟨Nat.le_of_ble_eq_true rfl, Nat.le_of_ble_eq_true rfl⟩) hP hS 8 rfl rfl rfl hl rfl (Nat.le_of_ble_eq_true rfl) dX8_foe_89 ⟨Nat.zero_le _, Nat.zero_le _⟩ (fun H locs hP hS => ?_)
              refine lv_bipush (v := 6) hx hb dX8_foe_92 (by decide) ?_
              refine lv_icmp_lt (tgt := 108) hx hb dX8_foe_94 (by decide) (fun h => ?_) (fun h => ?_)
              · rw [if_pos h] at hf
                refine lv_aload_n hx hb dX8_foe_108 rfl (lv_at hl 0 rfl) ?_
                refine zz_getf C zi_X8_foe_X8 hP 0 rfl rfl 7 (nm := "foes") (ds := "LThirteenthDay$Foes;") (fin := true) rfl (by decide) zk_X8_foe_57 rfl dX8_foe_109 ?_
                refine lv_iload_n hx hb dX8_foe_112 rfl (lv_at hl 1 rfl) ?_
                refine lv_iload_n hx hb dX8_foe_113 rfl (lv_at hl 2 rfl) ?_
                refine lv_iload_n hx hb dX8_foe_114 rfl (lv_at hl 3 rfl) ?_
                refine lv_iload hx hb dX8_foe_115 (lv_at hl 4 rfl) ?_
                obtain ⟨p1, e2, hf⟩ := zz_vo hf
                refine zz_callVi C (As := [.int v1, .int v2, .int v3, .int v4]) (rest := []) (zz_Mi_e e2 (zc_X0_add _ _ _ _ _)) (cwV 4 hts gX8_foe_X0_add rfl rfl rfl zd_X0_add ⟨Nat.le_of_ble_eq_true rfl, Nat.le_of_ble_eq_true rfl⟩) hP hS 8 rfl rfl rfl hl rfl (Nat.le_of_ble_eq_true rfl) dX8_foe_117 ⟨Nat.zero_le _, Nat.zero_le _⟩ (fun H locs hP hS => ?_)
                rw [← (Option.some.inj hf)]
                exact zz_retxi C hr hP hS dX8_foe_120
              · rw [if_neg h] at hf
                rw [← (Option.some.inj hf)]
                exact zz_thrW C hst hP hS (cls := "java/lang/IllegalStateException") (text := "there are 6 of that PLAN") (ik := 92) (is := 344) (ic := 96) (by decide +kernel) zj_X8_foe_IS.1 zj_X8_foe_IS.2.1 (by decide +kernel) zj_X8_foe_IS.2.2.1 zj_X8_foe_IS.2.2.2 (by decide) hl dX8_foe_97 dX8_foe_100 dX8_foe_101 dX8_foe_104 dX8_foe_107 hxt (by decide) (by decide) (by decide) (by decide)
            · rw [if_neg h] at hf
              rw [← (Option.some.inj hf)]
              exact zz_thrW C hst hP hS (cls := "java/lang/IllegalArgumentException") (text := "strength is not 1 to 60") (ik := 77) (is := 339) (ic := 81) (by decide +kernel) zj_X8_foe_IA.1 zj_X8_foe_IA.2.1 (by decide +kernel) zj_X8_foe_IA.2.2.1 zj_X8_foe_IA.2.2.2 (by decide) hl dX8_foe_73 dX8_foe_76 dX8_foe_77 dX8_foe_80 dX8_foe_83 hxt (by decide) (by decide) (by decide) (by decide)
        · rw [if_neg h] at hf
          rw [← (Option.some.inj hf)]
          exact zz_thrW C hst hP hS (cls := "java/lang/IllegalArgumentException") (text := "day is not above DAY, or above 20") (ik := 77) (is := 337) (ic := 81) (by decide +kernel) zj_X8_foe_IA.1 zj_X8_foe_IA.2.1 (by decide +kernel) zj_X8_foe_IA.2.2.1 zj_X8_foe_IA.2.2.2 (by decide) hl dX8_foe_49 dX8_foe_52 dX8_foe_53 dX8_foe_56 dX8_foe_59 hxt (by decide) (by decide) (by decide) (by decide)
    · rw [zz_if1 (zz_b1 h)] at hf
      rw [← (Option.some.inj hf)]
      exact zz_thr C hst hP hS (cls := "java/lang/IndexOutOfBoundsException") (text := "sector is not 0 to 2") (ik := 105) (is := 165) (ic := 109) (by decide +kernel) zj_X8_foe_IO.1 zj_X8_foe_IO.2.1 (by decide +kernel) zj_X8_foe_IO.2.2.1 zj_X8_foe_IO.2.2.2 (by decide) hl dX8_foe_25 dX8_foe_28 dX8_foe_29 dX8_foe_31 dX8_foe_34 hxt (by decide) (by decide) (by decide) (by decide)
  · rw [zz_if1 (zz_b1 h)] at hf
    rw [← (Option.some.inj hf)]
    exact zz_thrW C hst hP hS (cls := "java/lang/IndexOutOfBoundsException") (text := "plan is not 0 to 2") (ik := 105) (is := 332) (ic := 109) (by decide +kernel) zj_X8_foe_IO.1 zj_X8_foe_IO.2.1 (by decide +kernel) zj_X8_foe_IO.2.2.1 zj_X8_foe_IO.2.2.2 (by decide) hl dX8_foe_7 dX8_foe_10 dX8_foe_11 dX8_foe_14 dX8_foe_17 hxt (by decide) (by decide) (by decide) (by decide)
/-! X8_pass PX -/
abbrev zr_X8_passx : Room := { frames := 6, cells := 1, slots := 6, locals := 147 }
theorem zj_X8_pass_IA : Cond.classLink yX8_pass.cls 77 "java/lang/IllegalArgumentException" ∈ wsX8_pass ∧ Cond.initialized "java/lang/IllegalArgumentException" ∈ wsX8_pass ∧ (∀ w ∈ vx_atS yX8_pass.cls 81 "java/lang/IllegalArgumentException" ["java/lang/RuntimeException", "java/lang/Exception"], w ∈ wsX8_pass ∨ w ∈ zz_bad) ∧ ∀ w ∈ Cond.classLink yX8_pass.cls 77 "java/lang/IllegalArgumentException" :: Cond.initialized "java/lang/IllegalArgumentException" :: vx_atS yX8_pass.cls 81 "java/lang/IllegalArgumentException" ["java/lang/RuntimeException", "java/lang/Exception"], vx_ot w = true := by decide +kernel
theorem zj_X8_pass_IS : Cond.classLink yX8_pass.cls 92 "java/lang/IllegalStateException" ∈ wsX8_pass ∧ Cond.initialized "java/lang/IllegalStateException" ∈ wsX8_pass ∧ (∀ w ∈ vx_atS yX8_pass.cls 96 "java/lang/IllegalStateException" ["java/lang/RuntimeException", "java/lang/Exception"], w ∈ wsX8_pass ∨ w ∈ zz_bad) ∧ ∀ w ∈ Cond.classLink yX8_pass.cls 92 "java/lang/IllegalStateException" :: Cond.initialized "java/lang/IllegalStateException" :: vx_atS yX8_pass.cls 96 "java/lang/IllegalStateException" ["java/lang/RuntimeException", "java/lang/Exception"], vx_ot w = true := by decide +kernel
def zX8_passx_48 : Nat → Int32 → Int32 → zz_T → Option (Option Int32 × zz_T)
  | 0, _, _, _ => none
  | n + 1, v1, v2, st =>
    if v1 ≤ v2 then
      some (some (st.2 0), st)
    else
      (zX8_nextTick st).bind fun st1 =>
      zX8_passx_48 n v1 (v2 + 1) st1
set_option maxHeartbeats 4000000 in
set_option maxRecDepth 100000 in
theorem zt_X8_passx_48 {l : Launch} {A : Nat → Prop} {D : va_G} {cI : ClassId} {q : Nat → Nat} {p : Program} {e : Env} {s : State} {m : MethodId} {args : Array Value} {below : List Frame} {meth : Method} {c : Code} (C : zz_C A D cI q p s m args meth c cX8_pass 3 wsX8_pass yX8_pass.cls) (hr : meth.sig.returnType = some .int) (hst : l.stackTraces = false) (hxt : ∀ x ∈ c.exceptionTable.toList, False) : ∀ (n : Nat) (v1 : Int32) (v2 : Int32) (st : zz_T) (H : Heap) (locs : List Loc) (ls : Array Slot) (r : (Option Int32 × zz_T)), zX8_passx_48 n v1 v2 st = some r → va_P D vwCl (zz_c q cI st) H → va_S A s.heap H locs → lv_has ls 3 [(0, .ref (q 0)), (1, .int v1), (2, .int v2)] → W p l e zr_X8_passx s m args below meth c H locs 0 0 (zz_Qx A D cI q r below args s) (F0 m 48 ls []) := by
  obtain ⟨hx, hb, hml, hown, hts⟩ := id C.1
  intro n
  induction n with
  | zero => intro v1 v2 st H locs ls r hf; cases hf
  | succ n ih =>
    intro v1 v2 st H locs ls r hf hP hS hl
    rw [zX8_passx_48] at hf
    refine lv_iload_n hx hb dX8_pass_48 rfl (lv_at hl 2 rfl) ?_
    refine lv_iload_n hx hb dX8_pass_49 rfl (lv_at hl 1 rfl) ?_
    refine lv_icmp_ge (tgt := 63) hx hb dX8_pass_50 (by decide) (fun h => ?_) (fun h => ?_)
    · rw [if_pos h] at hf
      refine lv_aload_n hx hb dX8_pass_63 rfl (lv_at hl 0 rfl) ?_
      refine zz_getf C zi_X8_pass_X8 hP 0 rfl rfl 9 (nm := "tick") (ds := "I") (fin := false) rfl (by decide) zk_X8_pass_70 rfl dX8_pass_64 ?_
      rw [← (Option.some.inj hf)]
      exact zz_retxi C hr hP hS dX8_pass_67
    · rw [if_neg h] at hf
      refine lv_aload_n hx hb dX8_pass_53 rfl (lv_at hl 0 rfl) ?_
      obtain ⟨st1, e2, hf⟩ := zz_bo hf
      refine zz_callVv C (As := []) (rest := []) (zc_X8_nextTick _ _ e2) (cwV 0 hts gX8_pass_X8_nextTick rfl rfl rfl zd_X8_nextTick ⟨Nat.le_of_ble_eq_true rfl, Nat.le_of_ble_eq_true rfl⟩) hP hS 0 rfl rfl rfl hl rfl (Nat.le_of_ble_eq_true rfl) dX8_pass_54 ⟨Nat.zero_le _, Nat.zero_le _⟩ (fun H locs hP hS => ?_)
      refine lv_iinc (v := (v2 + 1)) (lv' := [(2, .int (v2 + 1)), (0, .ref (q 0)), (1, .int v1)]) hx hb dX8_pass_57 hl (k := 2) rfl (congrArg (fun z => v2 + z) (by decide)) (by decide) rfl (fun ls hl => ?_)
      refine lv_goto (tgt := 48) hx hb dX8_pass_60 (by decide) ?_
      exact ih _ _ _ _ _ _ _ hf hP hS (lv_sub hl [1, 2, 0] rfl)
def zX8_passx (v1 : Int32) (st : zz_T) : Option (Option Int32 × zz_T) :=
  if v1 < 1 then
    some (none, st)
  else
    if v1 ≤ 144 then
      if ((st.2 0) + v1) ≤ 2880 then
        zX8_passx_48 zz_N v1 0 st
      else
        some (none, st)
    else
      some (none, st)
set_option maxHeartbeats 4000000 in
set_option maxRecDepth 100000 in
theorem zx_X8_pass {l : Launch} {A : Nat → Prop} {D : va_G} {cI : ClassId} {q : Nat → Nat} (hst : l.stackTraces = false) (v1 : Int32) (st : zz_T) (r : (Option Int32 × zz_T)) (hf : zX8_passx v1 st = some r) : zz_Mx l A D cI q yX8_pass wsX8_pass zr_X8_passx [.ref (q 0), .int v1] st r := by
  refine zz_ofx (cc := cX8_pass) (nL := 3) (ret := some .int) (by decide) rfl (Nat.le_of_ble_eq_true rfl) ?_
  intro p e s m args below meth c ls C hr hxt hP hS hl
  obtain ⟨hx, hb, hml, hown, hts⟩ := id C.1
  have hl : lv_has ls 3 [(0, .ref (q 0)), (1, .int v1)] := hl
  rw [zX8_passx] at hf
  skip
  refine lv_iload_n hx hb dX8_pass_0 rfl (lv_at hl 1 rfl) ?_
  refine lv_iconst (v := 1) hx hb dX8_pass_1 (by decide) ?_
  refine lv_icmp_lt (tgt := 12) hx hb dX8_pass_2 (by decide) (fun h => ?_) (fun h => ?_)
  · rw [if_pos h] at hf
    rw [← (Option.some.inj hf)]
    exact zz_thrW C hst hP hS (cls := "java/lang/IllegalArgumentException") (text := "ticks is not 1 to 144") (ik := 77) (is := 367) (ic := 81) (by decide +kernel) zj_X8_pass_IA.1 zj_X8_pass_IA.2.1 (by decide +kernel) zj_X8_pass_IA.2.2.1 zj_X8_pass_IA.2.2.2 (by decide) hl dX8_pass_12 dX8_pass_15 dX8_pass_16 dX8_pass_19 dX8_pass_22 hxt (by decide) (by decide) (by decide) (by decide)
  · rw [if_neg h] at hf
    refine lv_iload_n hx hb dX8_pass_5 rfl (lv_at hl 1 rfl) ?_
    refine lv_sipush (v := 144) hx hb dX8_pass_6 (by decide) ?_
    refine lv_icmp_le (tgt := 23) hx hb dX8_pass_9 (by decide) (fun h => ?_) (fun h => ?_)
    · rw [if_pos h] at hf
      refine lv_aload_n hx hb dX8_pass_23 rfl (lv_at hl 0 rfl) ?_
      refine zz_getf C zi_X8_pass_X8 hP 0 rfl rfl 9 (nm := "tick") (ds := "I") (fin := false) rfl (by decide) zk_X8_pass_70 rfl dX8_pass_24 ?_
      refine lv_iload_n hx hb dX8_pass_27 rfl (lv_at hl 1 rfl) ?_
      refine lv_iadd hx hb dX8_pass_28 ?_
      refine lv_sipush (v := 2880) hx hb dX8_pass_29 (by decide) ?_
      refine lv_icmp_le (tgt := 46) hx hb dX8_pass_32 (by decide) (fun h => ?_) (fun h => ?_)
      · rw [if_pos h] at hf
        refine lv_iconst (v := 0) hx hb dX8_pass_46 (by decide) ?_
        refine lv_istore_n (lv' := [(2, .int 0), (0, .ref (q 0)), (1, .int v1)]) hx hb dX8_pass_47 rfl hl (by decide) rfl (fun ls hl => ?_)
        exact zt_X8_passx_48 C hr hst hxt zz_N _ _ _ _ _ _ _ hf hP hS (lv_sub hl [1, 2, 0] rfl)
      · rw [if_neg h] at hf
        rw [← (Option.some.inj hf)]
        exact zz_thrW C hst hP hS (cls := "java/lang/IllegalStateException") (text := "TICK would be above 2880") (ik := 92) (is := 369) (ic := 96) (by decide +kernel) zj_X8_pass_IS.1 zj_X8_pass_IS.2.1 (by decide +kernel) zj_X8_pass_IS.2.2.1 zj_X8_pass_IS.2.2.2 (by decide) hl dX8_pass_35 dX8_pass_38 dX8_pass_39 dX8_pass_42 dX8_pass_45 hxt (by decide) (by decide) (by decide) (by decide)
    · rw [if_neg h] at hf
      rw [← (Option.some.inj hf)]
      exact zz_thrW C hst hP hS (cls := "java/lang/IllegalArgumentException") (text := "ticks is not 1 to 144") (ik := 77) (is := 367) (ic := 81) (by decide +kernel) zj_X8_pass_IA.1 zj_X8_pass_IA.2.1 (by decide +kernel) zj_X8_pass_IA.2.2.1 zj_X8_pass_IA.2.2.2 (by decide) hl dX8_pass_12 dX8_pass_15 dX8_pass_16 dX8_pass_19 dX8_pass_22 hxt (by decide) (by decide) (by decide) (by decide)
