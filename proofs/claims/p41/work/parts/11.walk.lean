/-! X2_lay PW -/
theorem zd_X2_lay : yX2_lay.cls = RX2 ∧ yX2_lay.cls ≠ "java/lang/invoke/MethodHandle" ∧ yX2_lay.cls ≠ "java/lang/invoke/VarHandle" ∧ (parseMethodDescriptor yX2_lay.desc).map (fun d => d.parameters.length) = some 3 := by decide +kernel
abbrev zr_X2_lay : Room := { frames := 3, cells := 0, slots := 0, locals := 72 }
theorem zk_X2_lay_20 : Cond.fieldLink yX2_lay.cls 20 RX2 "facts" "LThirteenthDay$Table;" ∈ wsX2_lay := by decide +kernel
theorem zk_X2_lay_26 : Cond.fieldLink yX2_lay.cls 26 RX2 "steps" "LThirteenthDay$Table;" ∈ wsX2_lay := by decide +kernel
theorem zk_X2_lay_29 : Cond.fieldLink yX2_lay.cls 29 RX2 "offsets" "LThirteenthDay$Table;" ∈ wsX2_lay := by decide +kernel
theorem zk_X2_lay_32 : Cond.fieldLink yX2_lay.cls 32 RX2 "forwards" "LThirteenthDay$Table;" ∈ wsX2_lay := by decide +kernel
theorem zi_X2_lay_X2 : ∀ w ∈ u_ws RX2 TX2 5, w ∈ wsX2_lay := by decide +kernel
def zX2_lay_167 (b : Nat) (k75 : Int32 → Int32 → Int32 → Int32 → Int32 → Int32 → zz_T → Option (Bool × zz_T)) (v1 : Int32) (v4 : Int32) (v5 : Int32) (v7 : Int32) (v8 : Int32) (v9 : Int32) (v10 : Bool) (k1 : Int32) (k2 : Int32) (k3 : Bool) (st : zz_T) : Option (Bool × zz_T) :=
  zz_v (zz_set (b + 3) k1 k2 (zz_b k3) st) fun st16 =>
  zz_v (zX2_noteTrack b v9 st16) fun st18 =>
  zz_v (v7 + (zX1_getLine v9 7 st18)) fun w20 =>
  zz_v (zX1_endOf v9 v10 st18) fun w21 =>
  k75 v1 v4 v5 w21 w20 (v8 + 1) st18
set_option maxHeartbeats 4000000 in
set_option maxRecDepth 100000 in
theorem zt_X2_lay_167 {l : Launch} {A : Nat → Prop} {D : va_G} {cI : ClassId} {q : Nat → Nat} {p : Program} {e : Env} {s : State} {m : MethodId} {args : Array Value} {below : List Frame} {meth : Method} {c : Code} (C : zz_C A D cI q p s m args meth c cX2_lay 11 wsX2_lay yX2_lay.cls) (hr : meth.sig.returnType = some .boolean) (o b : Nat) (hz : zz_P o b) (k75 : Int32 → Int32 → Int32 → Int32 → Int32 → Int32 → zz_T → Option (Bool × zz_T)) (hk75 : ∀ (v1 : Int32) (v4 : Int32) (v5 : Int32) (v6 : Int32) (v7 : Int32) (v8 : Int32) (st : zz_T) (H : Heap) (locs : List Loc) (ls : Array Slot) (r : (Bool × zz_T)), k75 v1 v4 v5 v6 v7 v8 st = some r → va_P D vwCl (zz_c q cI st) H → va_S A s.heap H locs → lv_has ls 11 [(0, .ref (q o)), (1, .int v1), (3, .ref (q 1)), (4, .int v4), (5, .int v5), (6, .int v6), (7, .int v7), (8, .int v8)] → W p l e zr_X2_lay s m args below meth c H locs 0 0 (zz_Qi A D cI q (zz_b r.1) r.2 below args s) (F0 m 75 ls [])) : ∀ (v1 : Int32) (v4 : Int32) (v5 : Int32) (v7 : Int32) (v8 : Int32) (v9 : Int32) (v10 : Bool) (k1 : Int32) (k2 : Int32) (k3 : Bool) (st : zz_T) (H : Heap) (locs : List Loc) (ls : Array Slot) (r : (Bool × zz_T)), zX2_lay_167 b k75 v1 v4 v5 v7 v8 v9 v10 k1 k2 k3 st = some r → va_P D vwCl (zz_c q cI st) H → va_S A s.heap H locs → lv_has ls 11 [(0, .ref (q o)), (1, .int v1), (3, .ref (q 1)), (4, .int v4), (5, .int v5), (7, .int v7), (8, .int v8), (9, .int v9), (10, .int (zz_b v10))] → W p l e zr_X2_lay s m args below meth c H locs 0 0 (zz_Qi A D cI q (zz_b r.1) r.2 below args s) (F0 m 167 ls [.int (zz_b k3), .int k2, .int k1, .ref (q (9 + (b + 3)))]) := by
  obtain ⟨hx, hb, hml, hown, hts⟩ := id C.1
  intro v1 v4 v5 v7 v8 v9 v10 k1 k2 k3 st H locs ls r hf hP hS hl
  rw [zX2_lay_167] at hf
  obtain ⟨st16, e17, hf⟩ := zz_vo hf
  refine zz_callVv C (As := [.int k1, .int k2, .int (zz_b k3)]) (rest := []) (zz_Mv_e e17 (zc_X5_set (b + 3) (zz_Plt hz (by decide)) _ _ _ _)) (cwV 3 hts gX2_lay_X5_set rfl rfl rfl zd_X5_set ⟨Nat.le_of_ble_eq_true rfl, Nat.le_of_ble_eq_true rfl⟩) hP hS (9 + (b + 3)) (zz_c_tab (zz_Plt hz (by decide))) rfl rfl hl rfl (Nat.le_of_ble_eq_true rfl) dX2_lay_167 ⟨Nat.zero_le _, Nat.zero_le _⟩ (fun H locs hP hS => ?_)
  refine lv_aload_n hx hb dX2_lay_170 rfl (lv_at hl 0 rfl) ?_
  refine lv_iload hx hb dX2_lay_171 (lv_at hl 7 rfl) ?_
  refine lv_aload_n hx hb dX2_lay_173 rfl (lv_at hl 2 rfl) ?_
  obtain ⟨st18, e19, hf⟩ := zz_vo hf
  refine zz_callVv C (As := [.int v9, .ref (q 1)]) (rest := []) (zz_Mv_e e19 (zc_X2_noteTrack o b hz _ _)) (cwV 2 hts gX2_lay_X2_noteTrack rfl rfl rfl zd_X2_noteTrack ⟨Nat.le_of_ble_eq_true rfl, Nat.le_of_ble_eq_true rfl⟩) hP hS o (zz_c_pa hz) rfl rfl hl rfl (Nat.le_of_ble_eq_true rfl) dX2_lay_174 ⟨Nat.zero_le _, Nat.zero_le _⟩ (fun H locs hP hS => ?_)
  refine lv_iload hx hb dX2_lay_177 (lv_at hl 5 rfl) ?_
  refine lv_aload_n hx hb dX2_lay_179 rfl (lv_at hl 2 rfl) ?_
  refine lv_iload hx hb dX2_lay_180 (lv_at hl 7 rfl) ?_
  refine lv_bipush (v := 7) hx hb dX2_lay_182 (by decide) ?_
  refine zz_callVi C (As := [.int v9, .int 7]) (rest := [.int v7]) (zc_X1_getLine _ _ _) (cwV 2 hts gX2_lay_X1_getLine rfl rfl rfl zd_X1_getLine ⟨Nat.le_of_ble_eq_true rfl, Nat.le_of_ble_eq_true rfl⟩) hP hS 1 rfl rfl rfl hl rfl (Nat.le_of_ble_eq_true rfl) dX2_lay_184 ⟨Nat.zero_le _, Nat.zero_le _⟩ (fun H locs hP hS => ?_)
  refine lv_iadd hx hb dX2_lay_187 ?_
  refine lv_topi (fun w20 e20 => ?_)
  replace hf := zz_vi hf e20
  refine lv_istore (lv' := [(7, .int w20), (0, .ref (q o)), (1, .int v1), (3, .ref (q 1)), (4, .int v4), (5, .int v5), (8, .int v8), (9, .int v9), (10, .int (zz_b v10))]) hx hb dX2_lay_188 hl (by decide) rfl (fun ls hl => ?_)
  refine lv_aload_n hx hb dX2_lay_190 rfl (lv_at hl 3 rfl) ?_
  refine lv_iload hx hb dX2_lay_191 (lv_at hl 7 rfl) ?_
  refine lv_iload hx hb dX2_lay_193 (lv_at hl 8 rfl) ?_
  refine zz_callVi C (As := [.int v9, .int (zz_b v10)]) (rest := []) (zc_X1_endOf _ v10 _) (cwV 2 hts gX2_lay_X1_endOf rfl rfl rfl zd_X1_endOf ⟨Nat.le_of_ble_eq_true rfl, Nat.le_of_ble_eq_true rfl⟩) hP hS 1 rfl rfl rfl hl rfl (Nat.le_of_ble_eq_true rfl) dX2_lay_195 ⟨Nat.zero_le _, Nat.zero_le _⟩ (fun H locs hP hS => ?_)
  refine lv_topi (fun w21 e21 => ?_)
  replace hf := zz_vi hf e21
  refine lv_istore (lv' := [(6, .int w21), (7, .int w20), (0, .ref (q o)), (1, .int v1), (3, .ref (q 1)), (4, .int v4), (5, .int v5), (8, .int v8), (9, .int v9), (10, .int (zz_b v10))]) hx hb dX2_lay_198 hl (by decide) rfl (fun ls hl => ?_)
  refine lv_iinc (v := (v8 + 1)) (lv' := [(8, .int (v8 + 1)), (6, .int w21), (7, .int w20), (0, .ref (q o)), (1, .int v1), (3, .ref (q 1)), (4, .int v4), (5, .int v5), (9, .int v9), (10, .int (zz_b v10))]) hx hb dX2_lay_200 hl (k := 7) rfl (congrArg (fun z => v8 + z) (by decide)) (by decide) rfl (fun ls hl => ?_)
  refine lv_goto (tgt := 75) hx hb dX2_lay_203 (by decide) ?_
  exact hk75 _ _ _ _ _ _ _ _ _ _ _ hf hP hS (lv_sub hl [3, 4, 5, 6, 7, 1, 2, 0] rfl)
def zX2_lay_123 (b : Nat) (k75 : Int32 → Int32 → Int32 → Int32 → Int32 → Int32 → zz_T → Option (Bool × zz_T)) (v1 : Int32) (v4 : Int32) (v5 : Int32) (v8 : Int32) (v9 : Int32) (v10 : Bool) (k0 : Int32) (k1 : Bool) (st : zz_T) : Option (Bool × zz_T) :=
  zz_v (k0 + (zz_b k1)) fun w11 =>
  zz_v (zz_set (b + 1) v1 v8 v9 st) fun st12 =>
  zz_v (zz_set (b + 2) v1 v9 w11 st12) fun st14 =>
  if v10 = true then
    zX2_lay_167 b k75 v1 v4 v5 w11 v8 v9 v10 v1 v9 true st14
  else
    zX2_lay_167 b k75 v1 v4 v5 w11 v8 v9 v10 v1 v9 false st14
set_option maxHeartbeats 4000000 in
set_option maxRecDepth 100000 in
theorem zt_X2_lay_123 {l : Launch} {A : Nat → Prop} {D : va_G} {cI : ClassId} {q : Nat → Nat} {p : Program} {e : Env} {s : State} {m : MethodId} {args : Array Value} {below : List Frame} {meth : Method} {c : Code} (C : zz_C A D cI q p s m args meth c cX2_lay 11 wsX2_lay yX2_lay.cls) (hr : meth.sig.returnType = some .boolean) (o b : Nat) (hz : zz_P o b) (k75 : Int32 → Int32 → Int32 → Int32 → Int32 → Int32 → zz_T → Option (Bool × zz_T)) (hk75 : ∀ (v1 : Int32) (v4 : Int32) (v5 : Int32) (v6 : Int32) (v7 : Int32) (v8 : Int32) (st : zz_T) (H : Heap) (locs : List Loc) (ls : Array Slot) (r : (Bool × zz_T)), k75 v1 v4 v5 v6 v7 v8 st = some r → va_P D vwCl (zz_c q cI st) H → va_S A s.heap H locs → lv_has ls 11 [(0, .ref (q o)), (1, .int v1), (3, .ref (q 1)), (4, .int v4), (5, .int v5), (6, .int v6), (7, .int v7), (8, .int v8)] → W p l e zr_X2_lay s m args below meth c H locs 0 0 (zz_Qi A D cI q (zz_b r.1) r.2 below args s) (F0 m 75 ls [])) : ∀ (v1 : Int32) (v4 : Int32) (v5 : Int32) (v8 : Int32) (v9 : Int32) (v10 : Bool) (k0 : Int32) (k1 : Bool) (st : zz_T) (H : Heap) (locs : List Loc) (ls : Array Slot) (r : (Bool × zz_T)), zX2_lay_123 b k75 v1 v4 v5 v8 v9 v10 k0 k1 st = some r → va_P D vwCl (zz_c q cI st) H → va_S A s.heap H locs → lv_has ls 11 [(0, .ref (q o)), (1, .int v1), (3, .ref (q 1)), (4, .int v4), (5, .int v5), (8, .int v8), (9, .int v9), (10, .int (zz_b v10))] → W p l e zr_X2_lay s m args below meth c H locs 0 0 (zz_Qi A D cI q (zz_b r.1) r.2 below args s) (F0 m 123 ls [.int (zz_b k1), .int k0]) := by
  obtain ⟨hx, hb, hml, hown, hts⟩ := id C.1
  intro v1 v4 v5 v8 v9 v10 k0 k1 st H locs ls r hf hP hS hl
  rw [zX2_lay_123] at hf
  refine lv_iadd hx hb dX2_lay_123 ?_
  refine lv_topi (fun w11 e11 => ?_)
  replace hf := zz_vi hf e11
  refine lv_istore (lv' := [(7, .int w11), (0, .ref (q o)), (1, .int v1), (3, .ref (q 1)), (4, .int v4), (5, .int v5), (8, .int v8), (9, .int v9), (10, .int (zz_b v10))]) hx hb dX2_lay_124 hl (by decide) rfl (fun ls hl => ?_)
  refine lv_aload_n hx hb dX2_lay_126 rfl (lv_at hl 1 rfl) ?_
  refine zz_getf C zi_X2_lay_X2 hP o (zz_c_pa hz) rfl 1 (nm := "steps") (ds := "LThirteenthDay$Table;") (fin := true) rfl (by decide) zk_X2_lay_26 rfl dX2_lay_127 ?_
  refine lv_iload_n hx hb dX2_lay_130 rfl (lv_at hl 2 rfl) ?_
  refine lv_iload hx hb dX2_lay_131 (lv_at hl 6 rfl) ?_
  refine lv_iload hx hb dX2_lay_133 (lv_at hl 7 rfl) ?_
  obtain ⟨st12, e13, hf⟩ := zz_vo hf
  refine zz_callVv C (As := [.int v1, .int v8, .int v9]) (rest := []) (zz_Mv_e e13 (zc_X5_set (b + 1) (zz_Plt hz (by decide)) _ _ _ _)) (cwV 3 hts gX2_lay_X5_set rfl rfl rfl zd_X5_set ⟨Nat.le_of_ble_eq_true rfl, Nat.le_of_ble_eq_true rfl⟩) hP hS (9 + (b + 1)) (zz_c_tab (zz_Plt hz (by decide))) rfl rfl hl rfl (Nat.le_of_ble_eq_true rfl) dX2_lay_135 ⟨Nat.zero_le _, Nat.zero_le _⟩ (fun H locs hP hS => ?_)
  refine lv_aload_n hx hb dX2_lay_138 rfl (lv_at hl 1 rfl) ?_
  refine zz_getf C zi_X2_lay_X2 hP o (zz_c_pa hz) rfl 2 (nm := "offsets") (ds := "LThirteenthDay$Table;") (fin := true) rfl (by decide) zk_X2_lay_29 rfl dX2_lay_139 ?_
  refine lv_iload_n hx hb dX2_lay_142 rfl (lv_at hl 2 rfl) ?_
  refine lv_iload hx hb dX2_lay_143 (lv_at hl 7 rfl) ?_
  refine lv_iload hx hb dX2_lay_145 (lv_at hl 0 rfl) ?_
  obtain ⟨st14, e15, hf⟩ := zz_vo hf
  refine zz_callVv C (As := [.int v1, .int v9, .int w11]) (rest := []) (zz_Mv_e e15 (zc_X5_set (b + 2) (zz_Plt hz (by decide)) _ _ _ _)) (cwV 3 hts gX2_lay_X5_set rfl rfl rfl zd_X5_set ⟨Nat.le_of_ble_eq_true rfl, Nat.le_of_ble_eq_true rfl⟩) hP hS (9 + (b + 2)) (zz_c_tab (zz_Plt hz (by decide))) rfl rfl hl rfl (Nat.le_of_ble_eq_true rfl) dX2_lay_147 ⟨Nat.zero_le _, Nat.zero_le _⟩ (fun H locs hP hS => ?_)
  refine lv_aload_n hx hb dX2_lay_150 rfl (lv_at hl 1 rfl) ?_
  refine zz_getf C zi_X2_lay_X2 hP o (zz_c_pa hz) rfl 3 (nm := "forwards") (ds := "LThirteenthDay$Table;") (fin := true) rfl (by decide) zk_X2_lay_32 rfl dX2_lay_151 ?_
  refine lv_iload_n hx hb dX2_lay_154 rfl (lv_at hl 2 rfl) ?_
  refine lv_iload hx hb dX2_lay_155 (lv_at hl 7 rfl) ?_
  refine lv_iload hx hb dX2_lay_157 (lv_at hl 8 rfl) ?_
  refine lv_if_eq (tgt := 166) hx hb dX2_lay_159 (by decide) (fun h => ?_) (fun h => ?_)
  · rw [zz_if0 (zz_b0 h)] at hf
    refine lv_iconst (v := 0) hx hb dX2_lay_166 (by decide) ?_
    exact zt_X2_lay_167 C hr o b hz _ hk75 _ _ _ _ _ _ _ _ _ _ _ _ _ _ _ hf hP hS (lv_sub hl [1, 2, 3, 4, 5, 0, 6, 7, 8] rfl)
  · rw [zz_if1 (zz_b1 h)] at hf
    refine lv_iconst (v := 1) hx hb dX2_lay_162 (by decide) ?_
    refine lv_goto (tgt := 167) hx hb dX2_lay_163 (by decide) ?_
    exact zt_X2_lay_167 C hr o b hz _ hk75 _ _ _ _ _ _ _ _ _ _ _ _ _ _ _ hf hP hS (lv_sub hl [1, 2, 3, 4, 5, 0, 6, 7, 8] rfl)
def zX2_lay_75 (b : Nat) : Nat → Int32 → Int32 → Int32 → Int32 → Int32 → Int32 → zz_T → Option (Bool × zz_T)
  | 0, _, _, _, _, _, _, _ => none
  | n + 1, v1, v4, v5, v6, v7, v8, st =>
    if v5 ≤ v8 then
      zz_v (zz_set (b + 0) v1 1 v5 st) fun st4 =>
      zz_v (zz_set (b + 0) v1 5 v7 st4) fun st6 =>
      zz_v (zz_set (b + 0) v1 6 (zX1_getStation v4 0 st6) st6) fun st8 =>
      some (true, st8)
    else
      zz_v (zX1_firstOf v6 v4 st) fun w10 =>
      if (zX1_getLine w10 0 st) = v6 then
        if v8 = 0 then
          zX2_lay_123 b (fun v1' v4' v5' v6' v7' v8' st' => zX2_lay_75 b n v1' v4' v5' v6' v7' v8' st') v1 v4 v5 v8 w10 true v7 false st
        else
          zX2_lay_123 b (fun v1' v4' v5' v6' v7' v8' st' => zX2_lay_75 b n v1' v4' v5' v6' v7' v8' st') v1 v4 v5 v8 w10 true v7 true st
      else
        if v8 = 0 then
          zX2_lay_123 b (fun v1' v4' v5' v6' v7' v8' st' => zX2_lay_75 b n v1' v4' v5' v6' v7' v8' st') v1 v4 v5 v8 w10 false v7 false st
        else
          zX2_lay_123 b (fun v1' v4' v5' v6' v7' v8' st' => zX2_lay_75 b n v1' v4' v5' v6' v7' v8' st') v1 v4 v5 v8 w10 false v7 true st
set_option maxHeartbeats 4000000 in
set_option maxRecDepth 100000 in
theorem zt_X2_lay_75 {l : Launch} {A : Nat → Prop} {D : va_G} {cI : ClassId} {q : Nat → Nat} {p : Program} {e : Env} {s : State} {m : MethodId} {args : Array Value} {below : List Frame} {meth : Method} {c : Code} (C : zz_C A D cI q p s m args meth c cX2_lay 11 wsX2_lay yX2_lay.cls) (hr : meth.sig.returnType = some .boolean) (o b : Nat) (hz : zz_P o b) : ∀ (n : Nat) (v1 : Int32) (v4 : Int32) (v5 : Int32) (v6 : Int32) (v7 : Int32) (v8 : Int32) (st : zz_T) (H : Heap) (locs : List Loc) (ls : Array Slot) (r : (Bool × zz_T)), zX2_lay_75 b n v1 v4 v5 v6 v7 v8 st = some r → va_P D vwCl (zz_c q cI st) H → va_S A s.heap H locs → lv_has ls 11 [(0, .ref (q o)), (1, .int v1), (3, .ref (q 1)), (4, .int v4), (5, .int v5), (6, .int v6), (7, .int v7), (8, .int v8)] → W p l e zr_X2_lay s m args below meth c H locs 0 0 (zz_Qi A D cI q (zz_b r.1) r.2 below args s) (F0 m 75 ls []) := by
  obtain ⟨hx, hb, hml, hown, hts⟩ := id C.1
  intro n
  induction n with
  | zero => intro v1 v4 v5 v6 v7 v8 st H locs ls r hf; cases hf
  | succ n ih =>
    intro v1 v4 v5 v6 v7 v8 st H locs ls r hf hP hS hl
    rw [zX2_lay_75] at hf
    refine lv_iload hx hb dX2_lay_75 (lv_at hl 7 rfl) ?_
    refine lv_iload hx hb dX2_lay_77 (lv_at hl 4 rfl) ?_
    refine lv_icmp_ge (tgt := 206) hx hb dX2_lay_79 (by decide) (fun h => ?_) (fun h => ?_)
    · rw [if_pos h] at hf
      refine lv_aload_n hx hb dX2_lay_206 rfl (lv_at hl 0 rfl) ?_
      refine zz_getf C zi_X2_lay_X2 hP o (zz_c_pa hz) rfl 0 (nm := "facts") (ds := "LThirteenthDay$Table;") (fin := true) rfl (by decide) zk_X2_lay_20 rfl dX2_lay_207 ?_
      refine lv_iload_n hx hb dX2_lay_210 rfl (lv_at hl 1 rfl) ?_
      refine lv_iconst (v := 1) hx hb dX2_lay_211 (by decide) ?_
      refine lv_iload hx hb dX2_lay_212 (lv_at hl 4 rfl) ?_
      obtain ⟨st4, e5, hf⟩ := zz_vo hf
      refine zz_callVv C (As := [.int v1, .int 1, .int v5]) (rest := []) (zz_Mv_e e5 (zc_X5_set (b + 0) (zz_Plt hz (by decide)) _ _ _ _)) (cwV 3 hts gX2_lay_X5_set rfl rfl rfl zd_X5_set ⟨Nat.le_of_ble_eq_true rfl, Nat.le_of_ble_eq_true rfl⟩) hP hS (9 + (b + 0)) (zz_c_tab (zz_Plt hz (by decide))) rfl rfl hl rfl (Nat.le_of_ble_eq_true rfl) dX2_lay_214 ⟨Nat.zero_le _, Nat.zero_le _⟩ (fun H locs hP hS => ?_)
      refine lv_aload_n hx hb dX2_lay_217 rfl (lv_at hl 0 rfl) ?_
      refine zz_getf C zi_X2_lay_X2 hP o (zz_c_pa hz) rfl 0 (nm := "facts") (ds := "LThirteenthDay$Table;") (fin := true) rfl (by decide) zk_X2_lay_20 rfl dX2_lay_218 ?_
      refine lv_iload_n hx hb dX2_lay_221 rfl (lv_at hl 1 rfl) ?_
      refine lv_iconst (v := 5) hx hb dX2_lay_222 (by decide) ?_
      refine lv_iload hx hb dX2_lay_223 (lv_at hl 6 rfl) ?_
      obtain ⟨st6, e7, hf⟩ := zz_vo hf
      refine zz_callVv C (As := [.int v1, .int 5, .int v7]) (rest := []) (zz_Mv_e e7 (zc_X5_set (b + 0) (zz_Plt hz (by decide)) _ _ _ _)) (cwV 3 hts gX2_lay_X5_set rfl rfl rfl zd_X5_set ⟨Nat.le_of_ble_eq_true rfl, Nat.le_of_ble_eq_true rfl⟩) hP hS (9 + (b + 0)) (zz_c_tab (zz_Plt hz (by decide))) rfl rfl hl rfl (Nat.le_of_ble_eq_true rfl) dX2_lay_225 ⟨Nat.zero_le _, Nat.zero_le _⟩ (fun H locs hP hS => ?_)
      refine lv_aload_n hx hb dX2_lay_228 rfl (lv_at hl 0 rfl) ?_
      refine zz_getf C zi_X2_lay_X2 hP o (zz_c_pa hz) rfl 0 (nm := "facts") (ds := "LThirteenthDay$Table;") (fin := true) rfl (by decide) zk_X2_lay_20 rfl dX2_lay_229 ?_
      refine lv_iload_n hx hb dX2_lay_232 rfl (lv_at hl 1 rfl) ?_
      refine lv_bipush (v := 6) hx hb dX2_lay_233 (by decide) ?_
      refine lv_aload_n hx hb dX2_lay_235 rfl (lv_at hl 2 rfl) ?_
      refine lv_iload hx hb dX2_lay_236 (lv_at hl 3 rfl) ?_
      refine lv_iconst (v := 0) hx hb dX2_lay_238 (by decide) ?_
      refine zz_callVi C (As := [.int v4, .int 0]) (rest := [.int 6, .int v1, .ref (q (9 + (b + 0)))]) (zc_X1_getStation _ _ _) (cwV 2 hts gX2_lay_X1_getStation rfl rfl rfl zd_X1_getStation ⟨Nat.le_of_ble_eq_true rfl, Nat.le_of_ble_eq_true rfl⟩) hP hS 1 rfl rfl rfl hl rfl (Nat.le_of_ble_eq_true rfl) dX2_lay_239 ⟨Nat.zero_le _, Nat.zero_le _⟩ (fun H locs hP hS => ?_)
      obtain ⟨st8, e9, hf⟩ := zz_vo hf
      refine zz_callVv C (As := [.int v1, .int 6, .int (zX1_getStation v4 0 st6)]) (rest := []) (zz_Mv_e e9 (zc_X5_set (b + 0) (zz_Plt hz (by decide)) _ _ _ _)) (cwV 3 hts gX2_lay_X5_set rfl rfl rfl zd_X5_set ⟨Nat.le_of_ble_eq_true rfl, Nat.le_of_ble_eq_true rfl⟩) hP hS (9 + (b + 0)) (zz_c_tab (zz_Plt hz (by decide))) rfl rfl hl rfl (Nat.le_of_ble_eq_true rfl) dX2_lay_242 ⟨Nat.zero_le _, Nat.zero_le _⟩ (fun H locs hP hS => ?_)
      refine lv_iconst (v := 1) hx hb dX2_lay_245 (by decide) ?_
      rw [← (Option.some.inj hf)]
      exact zz_retz (v := true) C hr hP hS dX2_lay_246
    · rw [if_neg h] at hf
      refine lv_aload_n hx hb dX2_lay_82 rfl (lv_at hl 2 rfl) ?_
      refine lv_iload hx hb dX2_lay_83 (lv_at hl 5 rfl) ?_
      refine lv_iload hx hb dX2_lay_85 (lv_at hl 3 rfl) ?_
      refine zz_callVi C (As := [.int v6, .int v4]) (rest := []) (zc_X1_firstOf _ _ _) (cwV 2 hts gX2_lay_X1_firstOf rfl rfl rfl zd_X1_firstOf ⟨Nat.le_of_ble_eq_true rfl, Nat.le_of_ble_eq_true rfl⟩) hP hS 1 rfl rfl rfl hl rfl (Nat.le_of_ble_eq_true rfl) dX2_lay_87 ⟨Nat.zero_le _, Nat.zero_le _⟩ (fun H locs hP hS => ?_)
      refine lv_topi (fun w10 e10 => ?_)
      replace hf := zz_vi hf e10
      refine lv_istore (lv' := [(9, .int w10), (0, .ref (q o)), (1, .int v1), (3, .ref (q 1)), (4, .int v4), (5, .int v5), (6, .int v6), (7, .int v7), (8, .int v8)]) hx hb dX2_lay_90 hl (by decide) rfl (fun ls hl => ?_)
      refine lv_aload_n hx hb dX2_lay_92 rfl (lv_at hl 3 rfl) ?_
      refine lv_iload hx hb dX2_lay_93 (lv_at hl 0 rfl) ?_
      refine lv_iconst (v := 0) hx hb dX2_lay_95 (by decide) ?_
      refine zz_callVi C (As := [.int w10, .int 0]) (rest := []) (zc_X1_getLine _ _ _) (cwV 2 hts gX2_lay_X1_getLine rfl rfl rfl zd_X1_getLine ⟨Nat.le_of_ble_eq_true rfl, Nat.le_of_ble_eq_true rfl⟩) hP hS 1 rfl rfl rfl hl rfl (Nat.le_of_ble_eq_true rfl) dX2_lay_96 ⟨Nat.zero_le _, Nat.zero_le _⟩ (fun H locs hP hS => ?_)
      refine lv_iload hx hb dX2_lay_99 (lv_at hl 6 rfl) ?_
      refine lv_icmp_ne (tgt := 108) hx hb dX2_lay_101 (by decide) (fun h => ?_) (fun h => ?_)
      · rw [if_neg h] at hf
        refine lv_iconst (v := 0) hx hb dX2_lay_108 (by decide) ?_
        refine lv_istore (lv' := [(10, .int 0), (9, .int w10), (0, .ref (q o)), (1, .int v1), (3, .ref (q 1)), (4, .int v4), (5, .int v5), (6, .int v6), (7, .int v7), (8, .int v8)]) hx hb dX2_lay_109 hl (by decide) rfl (fun ls hl => ?_)
        refine lv_iload hx hb dX2_lay_111 (lv_at hl 8 rfl) ?_
        refine lv_iload hx hb dX2_lay_113 (lv_at hl 9 rfl) ?_
        refine lv_if_ne (tgt := 122) hx hb dX2_lay_115 (by decide) (fun h => ?_) (fun h => ?_)
        · rw [if_neg h] at hf
          refine lv_iconst (v := 1) hx hb dX2_lay_122 (by decide) ?_
          exact zt_X2_lay_123 C hr o b hz _ ih _ _ _ _ _ _ _ _ _ _ _ _ _ hf hP hS (lv_sub hl [2, 3, 4, 5, 6, 9, 1, 0] rfl)
        · rw [if_pos h] at hf
          refine lv_iconst (v := 0) hx hb dX2_lay_118 (by decide) ?_
          refine lv_goto (tgt := 123) hx hb dX2_lay_119 (by decide) ?_
          exact zt_X2_lay_123 C hr o b hz _ ih _ _ _ _ _ _ _ _ _ _ _ _ _ hf hP hS (lv_sub hl [2, 3, 4, 5, 6, 9, 1, 0] rfl)
      · rw [if_pos h] at hf
        refine lv_iconst (v := 1) hx hb dX2_lay_104 (by decide) ?_
        refine lv_goto (tgt := 109) hx hb dX2_lay_105 (by decide) ?_
        refine lv_istore (lv' := [(10, .int 1), (9, .int w10), (0, .ref (q o)), (1, .int v1), (3, .ref (q 1)), (4, .int v4), (5, .int v5), (6, .int v6), (7, .int v7), (8, .int v8)]) hx hb dX2_lay_109 hl (by decide) rfl (fun ls hl => ?_)
        refine lv_iload hx hb dX2_lay_111 (lv_at hl 8 rfl) ?_
        refine lv_iload hx hb dX2_lay_113 (lv_at hl 9 rfl) ?_
        refine lv_if_ne (tgt := 122) hx hb dX2_lay_115 (by decide) (fun h => ?_) (fun h => ?_)
        · rw [if_neg h] at hf
          refine lv_iconst (v := 1) hx hb dX2_lay_122 (by decide) ?_
          exact zt_X2_lay_123 C hr o b hz _ ih _ _ _ _ _ _ _ _ _ _ _ _ _ hf hP hS (lv_sub hl [2, 3, 4, 5, 6, 9, 1, 0] rfl)
        · rw [if_pos h] at hf
          refine lv_iconst (v := 0) hx hb dX2_lay_118 (by decide) ?_
          refine lv_goto (tgt := 123) hx hb dX2_lay_119 (by decide) ?_
          exact zt_X2_lay_123 C hr o b hz _ ih _ _ _ _ _ _ _ _ _ _ _ _ _ hf hP hS (lv_sub hl [2, 3, 4, 5, 6, 9, 1, 0] rfl)
def zX2_lay_33 (b : Nat) : Nat → Int32 → Int32 → Int32 → Int32 → zz_T → Option (Bool × zz_T)
  | 0, _, _, _, _, _ => none
  | n + 1, v1, v2, v4, v5, st =>
    if 14 ≤ v5 then
      (zX1_linesOf v2 v4 st).bind fun x2 =>
      zX2_lay_75 b zz_N v1 v4 x2 v2 0 0 st
    else
      zz_v (zz_set (b + 2) v1 v5 (-1) st) fun st22 =>
      zX2_lay_33 b n v1 v2 v4 (v5 + 1) st22
set_option maxHeartbeats 4000000 in
set_option maxRecDepth 100000 in
theorem zt_X2_lay_33 {l : Launch} {A : Nat → Prop} {D : va_G} {cI : ClassId} {q : Nat → Nat} {p : Program} {e : Env} {s : State} {m : MethodId} {args : Array Value} {below : List Frame} {meth : Method} {c : Code} (C : zz_C A D cI q p s m args meth c cX2_lay 11 wsX2_lay yX2_lay.cls) (hr : meth.sig.returnType = some .boolean) (o b : Nat) (hz : zz_P o b) : ∀ (n : Nat) (v1 : Int32) (v2 : Int32) (v4 : Int32) (v5 : Int32) (st : zz_T) (H : Heap) (locs : List Loc) (ls : Array Slot) (r : (Bool × zz_T)), zX2_lay_33 b n v1 v2 v4 v5 st = some r → va_P D vwCl (zz_c q cI st) H → va_S A s.heap H locs → lv_has ls 11 [(0, .ref (q o)), (1, .int v1), (2, .int v2), (3, .ref (q 1)), (4, .int v4), (5, .int v5)] → W p l e zr_X2_lay s m args below meth c H locs 0 0 (zz_Qi A D cI q (zz_b r.1) r.2 below args s) (F0 m 33 ls []) := by
  obtain ⟨hx, hb, hml, hown, hts⟩ := id C.1
  intro n
  induction n with
  | zero => intro v1 v2 v4 v5 st H locs ls r hf; cases hf
  | succ n ih =>
    intro v1 v2 v4 v5 st H locs ls r hf hP hS hl
    rw [zX2_lay_33] at hf
    refine lv_iload hx hb dX2_lay_33 (lv_at hl 5 rfl) ?_
    refine lv_bipush (v := 14) hx hb dX2_lay_35 (by decide) ?_
    refine lv_icmp_ge (tgt := 57) hx hb dX2_lay_37 (by decide) (fun h => ?_) (fun h => ?_)
    · rw [if_pos h] at hf
      refine lv_aload_n hx hb dX2_lay_57 rfl (lv_at hl 3 rfl) ?_
      refine lv_iload_n hx hb dX2_lay_58 rfl (lv_at hl 2 rfl) ?_
      refine lv_iload hx hb dX2_lay_59 (lv_at hl 4 rfl) ?_
      obtain ⟨x2, e3, hf⟩ := zz_bo hf
      refine zz_callVi C (As := [.int v2, .int v4]) (rest := []) (zc_X1_linesOf _ _ _ _ e3) (cwV 2 hts gX2_lay_X1_linesOf rfl rfl rfl zd_X1_linesOf ⟨Nat.le_of_ble_eq_true rfl, Nat.le_of_ble_eq_true rfl⟩) hP hS 1 rfl rfl rfl hl rfl (Nat.le_of_ble_eq_true rfl) dX2_lay_61 ⟨Nat.zero_le _, Nat.zero_le _⟩ (fun H locs hP hS => ?_)
      refine lv_istore (lv' := [(5, .int x2), (0, .ref (q o)), (1, .int v1), (2, .int v2), (3, .ref (q 1)), (4, .int v4)]) hx hb dX2_lay_64 hl (by decide) rfl (fun ls hl => ?_)
      refine lv_iload_n hx hb dX2_lay_66 rfl (lv_at hl 3 rfl) ?_
      refine lv_istore (lv' := [(6, .int v2), (5, .int x2), (0, .ref (q o)), (1, .int v1), (2, .int v2), (3, .ref (q 1)), (4, .int v4)]) hx hb dX2_lay_67 hl (by decide) rfl (fun ls hl => ?_)
      refine lv_iconst (v := 0) hx hb dX2_lay_69 (by decide) ?_
      refine lv_istore (lv' := [(7, .int 0), (6, .int v2), (5, .int x2), (0, .ref (q o)), (1, .int v1), (2, .int v2), (3, .ref (q 1)), (4, .int v4)]) hx hb dX2_lay_70 hl (by decide) rfl (fun ls hl => ?_)
      refine lv_iconst (v := 0) hx hb dX2_lay_72 (by decide) ?_
      refine lv_istore (lv' := [(8, .int 0), (7, .int 0), (6, .int v2), (5, .int x2), (0, .ref (q o)), (1, .int v1), (2, .int v2), (3, .ref (q 1)), (4, .int v4)]) hx hb dX2_lay_73 hl (by decide) rfl (fun ls hl => ?_)
      exact zt_X2_lay_75 C hr o b hz zz_N _ _ _ _ _ _ _ _ _ _ _ hf hP hS (lv_sub hl [4, 5, 7, 8, 3, 2, 1, 0] rfl)
    · rw [if_neg h] at hf
      refine lv_aload_n hx hb dX2_lay_40 rfl (lv_at hl 0 rfl) ?_
      refine zz_getf C zi_X2_lay_X2 hP o (zz_c_pa hz) rfl 2 (nm := "offsets") (ds := "LThirteenthDay$Table;") (fin := true) rfl (by decide) zk_X2_lay_29 rfl dX2_lay_41 ?_
      refine lv_iload_n hx hb dX2_lay_44 rfl (lv_at hl 1 rfl) ?_
      refine lv_iload hx hb dX2_lay_45 (lv_at hl 5 rfl) ?_
      refine lv_iconst (v := (-1)) hx hb dX2_lay_47 (by decide) ?_
      obtain ⟨st22, e23, hf⟩ := zz_vo hf
      refine zz_callVv C (As := [.int v1, .int v5, .int (-1)]) (rest := []) (zz_Mv_e e23 (zc_X5_set (b + 2) (zz_Plt hz (by decide)) _ _ _ _)) (cwV 3 hts gX2_lay_X5_set rfl rfl rfl zd_X5_set ⟨Nat.le_of_ble_eq_true rfl, Nat.le_of_ble_eq_true rfl⟩) hP hS (9 + (b + 2)) (zz_c_tab (zz_Plt hz (by decide))) rfl rfl hl rfl (Nat.le_of_ble_eq_true rfl) dX2_lay_48 ⟨Nat.zero_le _, Nat.zero_le _⟩ (fun H locs hP hS => ?_)
      refine lv_iinc (v := (v5 + 1)) (lv' := [(5, .int (v5 + 1)), (0, .ref (q o)), (1, .int v1), (2, .int v2), (3, .ref (q 1)), (4, .int v4)]) hx hb dX2_lay_51 hl (k := 5) rfl (congrArg (fun z => v5 + z) (by decide)) (by decide) rfl (fun ls hl => ?_)
      refine lv_goto (tgt := 33) hx hb dX2_lay_54 (by decide) ?_
      exact ih _ _ _ _ _ _ _ _ _ hf hP hS (lv_sub hl [1, 2, 3, 4, 5, 0] rfl)
def zX2_lay (b : Nat) (v1 : Int32) (v2 : Int32) (st : zz_T) : Option (Bool × zz_T) :=
  zz_v (zz_g (b + 0) v1 3 st) fun w1 =>
  if w1 = (-1) then
    some (false, st)
  else
    if (zX1_timeOf v2 w1 st) = (-1) then
      some (false, st)
    else
      zX2_lay_33 b zz_N v1 v2 w1 0 st
set_option maxHeartbeats 4000000 in
set_option maxRecDepth 100000 in
theorem zc_X2_lay {l : Launch} {A : Nat → Prop} {D : va_G} {cI : ClassId} {q : Nat → Nat} (o b : Nat) (hz : zz_P o b) (v1 : Int32) (v2 : Int32) (st : zz_T) (r : (Bool × zz_T)) (hf : zX2_lay b v1 v2 st = some r) : zz_Mi l A D cI q yX2_lay wsX2_lay zr_X2_lay [.ref (q o), .int v1, .int v2, .ref (q 1)] st (zz_b r.1) r.2 := by
  refine zz_of (cc := cX2_lay) (nL := 11) (ret := some .boolean) (by decide) rfl (Nat.le_of_ble_eq_true rfl) ?_
  intro p e s m args below meth c ls C hr hP hS hl
  obtain ⟨hx, hb, hml, hown, hts⟩ := id C.1
  have hl : lv_has ls 11 [(0, .ref (q o)), (1, .int v1), (2, .int v2), (3, .ref (q 1))] := hl
  rw [zX2_lay] at hf
  skip
  refine lv_aload_n hx hb dX2_lay_0 rfl (lv_at hl 0 rfl) ?_
  refine zz_getf C zi_X2_lay_X2 hP o (zz_c_pa hz) rfl 0 (nm := "facts") (ds := "LThirteenthDay$Table;") (fin := true) rfl (by decide) zk_X2_lay_20 rfl dX2_lay_1 ?_
  refine lv_iload_n hx hb dX2_lay_4 rfl (lv_at hl 1 rfl) ?_
  refine lv_iconst (v := 3) hx hb dX2_lay_5 (by decide) ?_
  refine zz_callVi C (As := [.int v1, .int 3]) (rest := []) (zc_X5_get (b + 0) (zz_Plt hz (by decide)) _ _ _) (cwV 2 hts gX2_lay_X5_get rfl rfl rfl zd_X5_get ⟨Nat.le_of_ble_eq_true rfl, Nat.le_of_ble_eq_true rfl⟩) hP hS (9 + (b + 0)) (zz_c_tab (zz_Plt hz (by decide))) rfl rfl hl rfl (Nat.le_of_ble_eq_true rfl) dX2_lay_6 ⟨Nat.zero_le _, Nat.zero_le _⟩ (fun H locs hP hS => ?_)
  refine lv_topi (fun w1 e1 => ?_)
  replace hf := zz_vi hf e1
  refine lv_istore (lv' := [(4, .int w1), (0, .ref (q o)), (1, .int v1), (2, .int v2), (3, .ref (q 1))]) hx hb dX2_lay_9 hl (by decide) rfl (fun ls hl => ?_)
  refine lv_iload hx hb dX2_lay_11 (lv_at hl 0 rfl) ?_
  refine lv_iconst (v := (-1)) hx hb dX2_lay_13 (by decide) ?_
  refine lv_icmp_eq (tgt := 28) hx hb dX2_lay_14 (by decide) (fun h => ?_) (fun h => ?_)
  · rw [if_pos h] at hf
    refine lv_iconst (v := 0) hx hb dX2_lay_28 (by decide) ?_
    rw [← (Option.some.inj hf)]
    exact zz_retz (v := false) C hr hP hS dX2_lay_29
  · rw [if_neg h] at hf
    refine lv_aload_n hx hb dX2_lay_17 rfl (lv_at hl 4 rfl) ?_
    refine lv_iload_n hx hb dX2_lay_18 rfl (lv_at hl 3 rfl) ?_
    refine lv_iload hx hb dX2_lay_19 (lv_at hl 0 rfl) ?_
    refine zz_callVi C (As := [.int v2, .int w1]) (rest := []) (zc_X1_timeOf _ _ _) (cwV 2 hts gX2_lay_X1_timeOf rfl rfl rfl zd_X1_timeOf ⟨Nat.le_of_ble_eq_true rfl, Nat.le_of_ble_eq_true rfl⟩) hP hS 1 rfl rfl rfl hl rfl (Nat.le_of_ble_eq_true rfl) dX2_lay_21 ⟨Nat.zero_le _, Nat.zero_le _⟩ (fun H locs hP hS => ?_)
    refine lv_iconst (v := (-1)) hx hb dX2_lay_24 (by decide) ?_
    refine lv_icmp_ne (tgt := 30) hx hb dX2_lay_25 (by decide) (fun h => ?_) (fun h => ?_)
    · rw [if_neg h] at hf
      refine lv_iconst (v := 0) hx hb dX2_lay_30 (by decide) ?_
      refine lv_istore (lv' := [(5, .int 0), (4, .int w1), (0, .ref (q o)), (1, .int v1), (2, .int v2), (3, .ref (q 1))]) hx hb dX2_lay_31 hl (by decide) rfl (fun ls hl => ?_)
      exact zt_X2_lay_33 C hr o b hz zz_N _ _ _ _ _ _ _ _ _ hf hP hS (lv_sub hl [2, 3, 4, 5, 1, 0] rfl)
    · rw [if_pos h] at hf
      refine lv_iconst (v := 0) hx hb dX2_lay_28 (by decide) ?_
      rw [← (Option.some.inj hf)]
      exact zz_retz (v := false) C hr hP hS dX2_lay_29
/-! X8_planUnit PW -/
theorem zd_X8_planUnit : yX8_planUnit.cls = RX8 ∧ yX8_planUnit.cls ≠ "java/lang/invoke/MethodHandle" ∧ yX8_planUnit.cls ≠ "java/lang/invoke/VarHandle" ∧ (parseMethodDescriptor yX8_planUnit.desc).map (fun d => d.parameters.length) = some 3 := by decide +kernel
abbrev zr_X8_planUnit : Room := { frames := 4, cells := 0, slots := 0, locals := 102 }
theorem zk_X8_planUnit_19 : Cond.fieldLink yX8_planUnit.cls 19 RX8 "units" "LThirteenthDay$Units;" ∈ wsX8_planUnit := by decide +kernel
theorem zk_X8_planUnit_50 : Cond.fieldLink yX8_planUnit.cls 50 RX8 "sectors" "LThirteenthDay$Sectors;" ∈ wsX8_planUnit := by decide +kernel
theorem zk_X8_planUnit_30 : Cond.fieldLink yX8_planUnit.cls 30 RX8 "trial" "LThirteenthDay$Paths;" ∈ wsX8_planUnit := by decide +kernel
theorem zk_X8_planUnit_10 : Cond.fieldLink yX8_planUnit.cls 10 RX8 "land" "LThirteenthDay$Land;" ∈ wsX8_planUnit := by decide +kernel
theorem zi_X8_planUnit_X8 : ∀ w ∈ u_ws RX8 TX8 11, w ∈ wsX8_planUnit := by decide +kernel
def zX8_planUnit_53 : Nat → Int32 → Int32 → Int32 → Int32 → Int32 → Int32 → Int32 → Int32 → zz_T → Option (Int32 × zz_T)
  | 0, _, _, _, _, _, _, _, _, _ => none
  | n + 1, v1, v2, v3, v4, v5, v6, v7, v8, st =>
    if (zX7_get v1 1 st) ≤ v8 then
      some (v7, st)
    else
      zz_v (zX2_slotOf v1 v8 st) fun w6 =>
      zz_v (zX2_describe 11 w6 v2 v5 v6 st) fun st7 =>
      (zX2_lay 11 w6 v4 st7).bind fun x9 =>
      if x9.1 = true then
        (zX2_findStart 11 w6 (v7 + 1) (v3 + 288) x9.2).bind fun x11 =>
        if 0 ≤ x11.1 then
          zX8_planUnit_53 n v1 v2 v3 v4 v5 v6 x11.1 (v8 + 1) x11.2
        else
          some (x11.1, x11.2)
      else
        some ((-2), x9.2)
set_option maxHeartbeats 4000000 in
set_option maxRecDepth 100000 in
theorem zt_X8_planUnit_53 {l : Launch} {A : Nat → Prop} {D : va_G} {cI : ClassId} {q : Nat → Nat} {p : Program} {e : Env} {s : State} {m : MethodId} {args : Array Value} {below : List Frame} {meth : Method} {c : Code} (C : zz_C A D cI q p s m args meth c cX8_planUnit 11 wsX8_planUnit yX8_planUnit.cls) (hr : meth.sig.returnType = some .int) : ∀ (n : Nat) (v1 : Int32) (v2 : Int32) (v3 : Int32) (v4 : Int32) (v5 : Int32) (v6 : Int32) (v7 : Int32) (v8 : Int32) (st : zz_T) (H : Heap) (locs : List Loc) (ls : Array Slot) (r : (Int32 × zz_T)), zX8_planUnit_53 n v1 v2 v3 v4 v5 v6 v7 v8 st = some r → va_P D vwCl (zz_c q cI st) H → va_S A s.heap H locs → lv_has ls 11 [(0, .ref (q 0)), (1, .int v1), (2, .int v2), (3, .int v3), (4, .int v4), (5, .int v5), (6, .int v6), (7, .int v7), (8, .int v8)] → W p l e zr_X8_planUnit s m args below meth c H locs 0 0 (zz_Qi A D cI q r.1 r.2 below args s) (F0 m 53 ls []) := by
  obtain ⟨hx, hb, hml, hown, hts⟩ := id C.1
  intro n
  induction n with
  | zero => intro v1 v2 v3 v4 v5 v6 v7 v8 st H locs ls r hf; cases hf
  | succ n ih =>
    intro v1 v2 v3 v4 v5 v6 v7 v8 st H locs ls r hf hP hS hl
    rw [zX8_planUnit_53] at hf
    refine lv_iload hx hb dX8_planUnit_53 (lv_at hl 8 rfl) ?_
    refine lv_aload_n hx hb dX8_planUnit_55 rfl (lv_at hl 0 rfl) ?_
    refine zz_getf C zi_X8_planUnit_X8 hP 0 rfl rfl 1 (nm := "units") (ds := "LThirteenthDay$Units;") (fin := true) rfl (by decide) zk_X8_planUnit_19 rfl dX8_planUnit_56 ?_
    refine lv_iload_n hx hb dX8_planUnit_59 rfl (lv_at hl 1 rfl) ?_
    refine lv_iconst (v := 1) hx hb dX8_planUnit_60 (by decide) ?_
    refine zz_callVi C (As := [.int v1, .int 1]) (rest := [.int v8]) (zc_X7_get _ _ _) (cwV 2 hts gX8_planUnit_X7_get rfl rfl rfl zd_X7_get ⟨Nat.le_of_ble_eq_true rfl, Nat.le_of_ble_eq_true rfl⟩) hP hS 2 rfl rfl rfl hl rfl (Nat.le_of_ble_eq_true rfl) dX8_planUnit_61 ⟨Nat.zero_le _, Nat.zero_le _⟩ (fun H locs hP hS => ?_)
    refine lv_icmp_ge (tgt := 150) hx hb dX8_planUnit_64 (by decide) (fun h => ?_) (fun h => ?_)
    · rw [if_pos h] at hf
      refine lv_iload hx hb dX8_planUnit_150 (lv_at hl 7 rfl) ?_
      rw [← (Option.some.inj hf)]
      exact zz_reti C hr hP hS dX8_planUnit_152
    · rw [if_neg h] at hf
      refine lv_iload_n hx hb dX8_planUnit_67 rfl (lv_at hl 1 rfl) ?_
      refine lv_iload hx hb dX8_planUnit_68 (lv_at hl 8 rfl) ?_
      refine zz_callSi C (As := [.int v1, .int v8]) (rest := []) (zc_X2_slotOf _ _ _) (va_cwS 2 hts gX8_planUnit_X2_slotOf rfl rfl rfl zd_X2_slotOf.2 ⟨Nat.le_of_ble_eq_true rfl, Nat.le_of_ble_eq_true rfl⟩) hP hS rfl hl rfl (Nat.le_of_ble_eq_true rfl) dX8_planUnit_70 ⟨Nat.zero_le _, Nat.zero_le _⟩ (fun H locs hP hS => ?_)
      refine lv_topi (fun w6 e6 => ?_)
      replace hf := zz_vi hf e6
      refine lv_istore (lv' := [(9, .int w6), (0, .ref (q 0)), (1, .int v1), (2, .int v2), (3, .int v3), (4, .int v4), (5, .int v5), (6, .int v6), (7, .int v7), (8, .int v8)]) hx hb dX8_planUnit_73 hl (by decide) rfl (fun ls hl => ?_)
      refine lv_aload_n hx hb dX8_planUnit_75 rfl (lv_at hl 1 rfl) ?_
      refine zz_getf C zi_X8_planUnit_X8 hP 0 rfl rfl 3 (nm := "trial") (ds := "LThirteenthDay$Paths;") (fin := true) rfl (by decide) zk_X8_planUnit_30 rfl dX8_planUnit_76 ?_
      refine lv_iload hx hb dX8_planUnit_79 (lv_at hl 0 rfl) ?_
      refine lv_iload_n hx hb dX8_planUnit_81 rfl (lv_at hl 3 rfl) ?_
      refine lv_iload hx hb dX8_planUnit_82 (lv_at hl 6 rfl) ?_
      refine lv_iload hx hb dX8_planUnit_84 (lv_at hl 7 rfl) ?_
      obtain ⟨st7, e8, hf⟩ := zz_vo hf
      refine zz_callVv C (As := [.int w6, .int v2, .int v5, .int v6]) (rest := []) (zz_Mv_e e8 (zc_X2_describe 4 11 (by decide) _ _ _ _ _)) (cwV 4 hts gX8_planUnit_X2_describe rfl rfl rfl zd_X2_describe ⟨Nat.le_of_ble_eq_true rfl, Nat.le_of_ble_eq_true rfl⟩) hP hS 4 rfl rfl rfl hl rfl (Nat.le_of_ble_eq_true rfl) dX8_planUnit_86 ⟨Nat.zero_le _, Nat.zero_le _⟩ (fun H locs hP hS => ?_)
      refine lv_aload_n hx hb dX8_planUnit_89 rfl (lv_at hl 1 rfl) ?_
      refine zz_getf C zi_X8_planUnit_X8 hP 0 rfl rfl 3 (nm := "trial") (ds := "LThirteenthDay$Paths;") (fin := true) rfl (by decide) zk_X8_planUnit_30 rfl dX8_planUnit_90 ?_
      refine lv_iload hx hb dX8_planUnit_93 (lv_at hl 0 rfl) ?_
      refine lv_iload hx hb dX8_planUnit_95 (lv_at hl 5 rfl) ?_
      refine lv_aload_n hx hb dX8_planUnit_97 rfl (lv_at hl 1 rfl) ?_
      refine zz_getf C zi_X8_planUnit_X8 hP 0 rfl rfl 0 (nm := "land") (ds := "LThirteenthDay$Land;") (fin := true) rfl (by decide) zk_X8_planUnit_10 rfl dX8_planUnit_98 ?_
      obtain ⟨x9, e10, hf⟩ := zz_bo hf
      refine zz_callVi C (As := [.int w6, .int v4, .ref (q 1)]) (rest := []) (zc_X2_lay 4 11 (by decide) _ _ _ _ e10) (cwV 3 hts gX8_planUnit_X2_lay rfl rfl rfl zd_X2_lay ⟨Nat.le_of_ble_eq_true rfl, Nat.le_of_ble_eq_true rfl⟩) hP hS 4 rfl rfl rfl hl rfl (Nat.le_of_ble_eq_true rfl) dX8_planUnit_101 ⟨Nat.zero_le _, Nat.zero_le _⟩ (fun H locs hP hS => ?_)
      refine lv_istore (lv' := [(10, .int (zz_b x9.1)), (9, .int w6), (0, .ref (q 0)), (1, .int v1), (2, .int v2), (3, .int v3), (4, .int v4), (5, .int v5), (6, .int v6), (7, .int v7), (8, .int v8)]) hx hb dX8_planUnit_104 hl (by decide) rfl (fun ls hl => ?_)
      refine lv_iload hx hb dX8_planUnit_106 (lv_at hl 0 rfl) ?_
      refine lv_if_eq (tgt := 132) hx hb dX8_planUnit_108 (by decide) (fun h => ?_) (fun h => ?_)
      · rw [zz_if0 (zz_b0 h)] at hf
        refine lv_bipush (v := (-2)) hx hb dX8_planUnit_132 (by decide) ?_
        refine lv_istore (lv' := [(7, .int (-2)), (10, .int (zz_b x9.1)), (9, .int w6), (0, .ref (q 0)), (1, .int v1), (2, .int v2), (3, .int v3), (4, .int v4), (5, .int v5), (6, .int v6), (8, .int v8)]) hx hb dX8_planUnit_134 hl (by decide) rfl (fun ls hl => ?_)
        refine lv_iload hx hb dX8_planUnit_136 (lv_at hl 0 rfl) ?_
        refine lv_if_ge (tgt := 144) hx hb dX8_planUnit_138 (by decide) (fun h => absurd h (by decide)) (fun _ => ?_)
        refine lv_iload hx hb dX8_planUnit_141 (lv_at hl 0 rfl) ?_
        rw [← (Option.some.inj hf)]
        exact zz_reti C hr hP hS dX8_planUnit_143
      · rw [zz_if1 (zz_b1 h)] at hf
        refine lv_aload_n hx hb dX8_planUnit_111 rfl (lv_at hl 2 rfl) ?_
        refine zz_getf C zi_X8_planUnit_X8 hP 0 rfl rfl 3 (nm := "trial") (ds := "LThirteenthDay$Paths;") (fin := true) rfl (by decide) zk_X8_planUnit_30 rfl dX8_planUnit_112 ?_
        refine lv_iload hx hb dX8_planUnit_115 (lv_at hl 1 rfl) ?_
        refine lv_iload hx hb dX8_planUnit_117 (lv_at hl 9 rfl) ?_
        refine lv_iconst (v := 1) hx hb dX8_planUnit_119 (by decide) ?_
        refine lv_iadd hx hb dX8_planUnit_120 ?_
        refine lv_iload_n hx hb dX8_planUnit_121 rfl (lv_at hl 5 rfl) ?_
        refine lv_sipush (v := 288) hx hb dX8_planUnit_122 (by decide) ?_
        refine lv_iadd hx hb dX8_planUnit_125 ?_
        obtain ⟨x11, e12, hf⟩ := zz_bo hf
        refine zz_callVi C (As := [.int w6, .int (v7 + 1), .int (v3 + 288)]) (rest := []) (zc_X2_findStart 4 11 (by decide) _ _ _ _ _ e12) (cwV 3 hts gX8_planUnit_X2_findStart rfl rfl rfl zd_X2_findStart ⟨Nat.le_of_ble_eq_true rfl, Nat.le_of_ble_eq_true rfl⟩) hP hS 4 rfl rfl rfl hl rfl (Nat.le_of_ble_eq_true rfl) dX8_planUnit_126 ⟨Nat.zero_le _, Nat.zero_le _⟩ (fun H locs hP hS => ?_)
        refine lv_goto (tgt := 134) hx hb dX8_planUnit_129 (by decide) ?_
        refine lv_istore (lv' := [(7, .int x11.1), (10, .int (zz_b x9.1)), (9, .int w6), (0, .ref (q 0)), (1, .int v1), (2, .int v2), (3, .int v3), (4, .int v4), (5, .int v5), (6, .int v6), (8, .int v8)]) hx hb dX8_planUnit_134 hl (by decide) rfl (fun ls hl => ?_)
        refine lv_iload hx hb dX8_planUnit_136 (lv_at hl 0 rfl) ?_
        refine lv_if_ge (tgt := 144) hx hb dX8_planUnit_138 (by decide) (fun h => ?_) (fun h => ?_)
        · rw [if_pos h] at hf
          refine lv_iinc (v := (v8 + 1)) (lv' := [(8, .int (v8 + 1)), (7, .int x11.1), (10, .int (zz_b x9.1)), (9, .int w6), (0, .ref (q 0)), (1, .int v1), (2, .int v2), (3, .int v3), (4, .int v4), (5, .int v5), (6, .int v6)]) hx hb dX8_planUnit_144 hl (k := 10) rfl (congrArg (fun z => v8 + z) (by decide)) (by decide) rfl (fun ls hl => ?_)
          refine lv_goto (tgt := 53) hx hb dX8_planUnit_147 (by decide) ?_
          exact ih _ _ _ _ _ _ _ _ _ _ _ _ _ hf hP hS (lv_sub hl [4, 5, 6, 7, 8, 9, 10, 1, 0] rfl)
        · rw [if_neg h] at hf
          refine lv_iload hx hb dX8_planUnit_141 (lv_at hl 0 rfl) ?_
          rw [← (Option.some.inj hf)]
          exact zz_reti C hr hP hS dX8_planUnit_143
def zX8_planUnit (v1 : Int32) (v2 : Int32) (v3 : Int32) (st : zz_T) : Option (Int32 × zz_T) :=
  zz_v (zX7_get v1 2 st) fun w1 =>
  zz_v (zX3_get v2 0 st) fun w2 =>
  zz_v (zX7_unloadingOf (zX7_get v1 0 st) st) fun w3 =>
  zz_v (v3 - 1) fun w4 =>
  zz_v (zX7_get v1 7 st) fun w5 =>
  zX8_planUnit_53 zz_N v1 v2 v3 w1 w2 w3 w4 w5 st
set_option maxHeartbeats 4000000 in
set_option maxRecDepth 100000 in
theorem zc_X8_planUnit {l : Launch} {A : Nat → Prop} {D : va_G} {cI : ClassId} {q : Nat → Nat} (v1 : Int32) (v2 : Int32) (v3 : Int32) (st : zz_T) (r : (Int32 × zz_T)) (hf : zX8_planUnit v1 v2 v3 st = some r) : zz_Mi l A D cI q yX8_planUnit wsX8_planUnit zr_X8_planUnit [.ref (q 0), .int v1, .int v2, .int v3] st r.1 r.2 := by
  refine zz_of (cc := cX8_planUnit) (nL := 11) (ret := some .int) (by decide) rfl (Nat.le_of_ble_eq_true rfl) ?_
  intro p e s m args below meth c ls C hr hP hS hl
  obtain ⟨hx, hb, hml, hown, hts⟩ := id C.1
  have hl : lv_has ls 11 [(0, .ref (q 0)), (1, .int v1), (2, .int v2), (3, .int v3)] := hl
  rw [zX8_planUnit] at hf
  skip
  refine lv_aload_n hx hb dX8_planUnit_0 rfl (lv_at hl 0 rfl) ?_
  refine zz_getf C zi_X8_planUnit_X8 hP 0 rfl rfl 1 (nm := "units") (ds := "LThirteenthDay$Units;") (fin := true) rfl (by decide) zk_X8_planUnit_19 rfl dX8_planUnit_1 ?_
  refine lv_iload_n hx hb dX8_planUnit_4 rfl (lv_at hl 1 rfl) ?_
  refine lv_iconst (v := 2) hx hb dX8_planUnit_5 (by decide) ?_
  refine zz_callVi C (As := [.int v1, .int 2]) (rest := []) (zc_X7_get _ _ _) (cwV 2 hts gX8_planUnit_X7_get rfl rfl rfl zd_X7_get ⟨Nat.le_of_ble_eq_true rfl, Nat.le_of_ble_eq_true rfl⟩) hP hS 2 rfl rfl rfl hl rfl (Nat.le_of_ble_eq_true rfl) dX8_planUnit_6 ⟨Nat.zero_le _, Nat.zero_le _⟩ (fun H locs hP hS => ?_)
  refine lv_topi (fun w1 e1 => ?_)
  replace hf := zz_vi hf e1
  refine lv_istore (lv' := [(4, .int w1), (0, .ref (q 0)), (1, .int v1), (2, .int v2), (3, .int v3)]) hx hb dX8_planUnit_9 hl (by decide) rfl (fun ls hl => ?_)
  refine lv_aload_n hx hb dX8_planUnit_11 rfl (lv_at hl 1 rfl) ?_
  refine zz_getf C zi_X8_planUnit_X8 hP 0 rfl rfl 6 (nm := "sectors") (ds := "LThirteenthDay$Sectors;") (fin := true) rfl (by decide) zk_X8_planUnit_50 rfl dX8_planUnit_12 ?_
  refine lv_iload_n hx hb dX8_planUnit_15 rfl (lv_at hl 3 rfl) ?_
  refine lv_iconst (v := 0) hx hb dX8_planUnit_16 (by decide) ?_
  refine zz_callVi C (As := [.int v2, .int 0]) (rest := []) (zc_X3_get _ _ _) (cwV 2 hts gX8_planUnit_X3_get rfl rfl rfl zd_X3_get ⟨Nat.le_of_ble_eq_true rfl, Nat.le_of_ble_eq_true rfl⟩) hP hS 7 rfl rfl rfl hl rfl (Nat.le_of_ble_eq_true rfl) dX8_planUnit_17 ⟨Nat.zero_le _, Nat.zero_le _⟩ (fun H locs hP hS => ?_)
  refine lv_topi (fun w2 e2 => ?_)
  replace hf := zz_vi hf e2
  refine lv_istore (lv' := [(5, .int w2), (4, .int w1), (0, .ref (q 0)), (1, .int v1), (2, .int v2), (3, .int v3)]) hx hb dX8_planUnit_20 hl (by decide) rfl (fun ls hl => ?_)
  refine lv_aload_n hx hb dX8_planUnit_22 rfl (lv_at hl 2 rfl) ?_
  refine zz_getf C zi_X8_planUnit_X8 hP 0 rfl rfl 1 (nm := "units") (ds := "LThirteenthDay$Units;") (fin := true) rfl (by decide) zk_X8_planUnit_19 rfl dX8_planUnit_23 ?_
  refine lv_iload_n hx hb dX8_planUnit_26 rfl (lv_at hl 3 rfl) ?_
  refine lv_iconst (v := 0) hx hb dX8_planUnit_27 (by decide) ?_
  refine zz_callVi C (As := [.int v1, .int 0]) (rest := []) (zc_X7_get _ _ _) (cwV 2 hts gX8_planUnit_X7_get rfl rfl rfl zd_X7_get ⟨Nat.le_of_ble_eq_true rfl, Nat.le_of_ble_eq_true rfl⟩) hP hS 2 rfl rfl rfl hl rfl (Nat.le_of_ble_eq_true rfl) dX8_planUnit_28 ⟨Nat.zero_le _, Nat.zero_le _⟩ (fun H locs hP hS => ?_)
  refine zz_callSi C (As := [.int (zX7_get v1 0 st)]) (rest := []) (zc_X7_unloadingOf _ _) (va_cwS 1 hts gX8_planUnit_X7_unloadingOf rfl rfl rfl zd_X7_unloadingOf.2 ⟨Nat.le_of_ble_eq_true rfl, Nat.le_of_ble_eq_true rfl⟩) hP hS rfl hl rfl (Nat.le_of_ble_eq_true rfl) dX8_planUnit_31 ⟨Nat.zero_le _, Nat.zero_le _⟩ (fun H locs hP hS => ?_)
  refine lv_topi (fun w3 e3 => ?_)
  replace hf := zz_vi hf e3
  refine lv_istore (lv' := [(6, .int w3), (5, .int w2), (4, .int w1), (0, .ref (q 0)), (1, .int v1), (2, .int v2), (3, .int v3)]) hx hb dX8_planUnit_34 hl (by decide) rfl (fun ls hl => ?_)
  refine lv_iload_n hx hb dX8_planUnit_36 rfl (lv_at hl 6 rfl) ?_
  refine lv_iconst (v := 1) hx hb dX8_planUnit_37 (by decide) ?_
  refine lv_isub hx hb dX8_planUnit_38 ?_
  refine lv_topi (fun w4 e4 => ?_)
  replace hf := zz_vi hf e4
  refine lv_istore (lv' := [(7, .int w4), (6, .int w3), (5, .int w2), (4, .int w1), (0, .ref (q 0)), (1, .int v1), (2, .int v2), (3, .int v3)]) hx hb dX8_planUnit_39 hl (by decide) rfl (fun ls hl => ?_)
  refine lv_aload_n hx hb dX8_planUnit_41 rfl (lv_at hl 4 rfl) ?_
  refine zz_getf C zi_X8_planUnit_X8 hP 0 rfl rfl 1 (nm := "units") (ds := "LThirteenthDay$Units;") (fin := true) rfl (by decide) zk_X8_planUnit_19 rfl dX8_planUnit_42 ?_
  refine lv_iload_n hx hb dX8_planUnit_45 rfl (lv_at hl 5 rfl) ?_
  refine lv_bipush (v := 7) hx hb dX8_planUnit_46 (by decide) ?_
  refine zz_callVi C (As := [.int v1, .int 7]) (rest := []) (zc_X7_get _ _ _) (cwV 2 hts gX8_planUnit_X7_get rfl rfl rfl zd_X7_get ⟨Nat.le_of_ble_eq_true rfl, Nat.le_of_ble_eq_true rfl⟩) hP hS 2 rfl rfl rfl hl rfl (Nat.le_of_ble_eq_true rfl) dX8_planUnit_48 ⟨Nat.zero_le _, Nat.zero_le _⟩ (fun H locs hP hS => ?_)
  refine lv_topi (fun w5 e5 => ?_)
  replace hf := zz_vi hf e5
  refine lv_istore (lv' := [(8, .int w5), (7, .int w4), (6, .int w3), (5, .int w2), (4, .int w1), (0, .ref (q 0)), (1, .int v1), (2, .int v2), (3, .int v3)]) hx hb dX8_planUnit_51 hl (by decide) rfl (fun ls hl => ?_)
  exact zt_X8_planUnit_53 C hr zz_N _ _ _ _ _ _ _ _ _ _ _ _ _ hf hP hS (lv_sub hl [5, 6, 7, 8, 4, 3, 2, 1, 0] rfl)
/-! X8_could PW -/
theorem zd_X8_could : yX8_could.cls = RX8 ∧ yX8_could.cls ≠ "java/lang/invoke/MethodHandle" ∧ yX8_could.cls ≠ "java/lang/invoke/VarHandle" ∧ (parseMethodDescriptor yX8_could.desc).map (fun d => d.parameters.length) = some 2 := by decide +kernel
abbrev zr_X8_could : Room := { frames := 5, cells := 0, slots := 0, locals := 132 }
theorem zk_X8_could_19 : Cond.fieldLink yX8_could.cls 19 RX8 "units" "LThirteenthDay$Units;" ∈ wsX8_could := by decide +kernel
theorem zk_X8_could_30 : Cond.fieldLink yX8_could.cls 30 RX8 "trial" "LThirteenthDay$Paths;" ∈ wsX8_could := by decide +kernel
theorem zk_X8_could_26 : Cond.fieldLink yX8_could.cls 26 RX8 "paths" "LThirteenthDay$Paths;" ∈ wsX8_could := by decide +kernel
theorem zi_X8_could_X8 : ∀ w ∈ u_ws RX8 TX8 11, w ∈ wsX8_could := by decide +kernel
def zX8_could (v1 : Int32) (v2 : Int32) (st : zz_T) : Option (Int32 × zz_T) :=
  if (zX7_has v1 st) = true then
    if (zX8_isNoTickToPlan v2 st) = true then
      none
    else
      if (zX8_isNotPlannable v1 st) = true then
        none
      else
        zz_v (zX2_copyFrom 11 6 st) fun st1 =>
        (zX8_dropWaiting 11 v1 st1).bind fun x3 =>
        (zX8_planUnit v1 (zX7_get v1 3 x3.2) v2 x3.2).bind fun x5 =>
        some (x5.1, x5.2)
  else
    none
set_option maxHeartbeats 4000000 in
set_option maxRecDepth 100000 in
theorem zc_X8_could {l : Launch} {A : Nat → Prop} {D : va_G} {cI : ClassId} {q : Nat → Nat} (v1 : Int32) (v2 : Int32) (st : zz_T) (r : (Int32 × zz_T)) (hf : zX8_could v1 v2 st = some r) : zz_Mi l A D cI q yX8_could wsX8_could zr_X8_could [.ref (q 0), .int v1, .int v2] st r.1 r.2 := by
  refine zz_of (cc := cX8_could) (nL := 3) (ret := some .int) (by decide) rfl (Nat.le_of_ble_eq_true rfl) ?_
  intro p e s m args below meth c ls C hr hP hS hl
  obtain ⟨hx, hb, hml, hown, hts⟩ := id C.1
  have hl : lv_has ls 3 [(0, .ref (q 0)), (1, .int v1), (2, .int v2)] := hl
  rw [zX8_could] at hf
  skip
  refine lv_aload_n hx hb dX8_could_0 rfl (lv_at hl 0 rfl) ?_
  refine zz_getf C zi_X8_could_X8 hP 0 rfl rfl 1 (nm := "units") (ds := "LThirteenthDay$Units;") (fin := true) rfl (by decide) zk_X8_could_19 rfl dX8_could_1 ?_
  refine lv_iload_n hx hb dX8_could_4 rfl (lv_at hl 1 rfl) ?_
  refine zz_callVi C (As := [.int v1]) (rest := []) (zc_X7_has _ _) (cwV 1 hts gX8_could_X7_has rfl rfl rfl zd_X7_has ⟨Nat.le_of_ble_eq_true rfl, Nat.le_of_ble_eq_true rfl⟩) hP hS 2 rfl rfl rfl hl rfl (Nat.le_of_ble_eq_true rfl) dX8_could_5 ⟨Nat.zero_le _, Nat.zero_le _⟩ (fun H locs hP hS => ?_)
  refine lv_if_ne (tgt := 21) hx hb dX8_could_8 (by decide) (fun h => ?_) (fun h => ?_)
  · rw [zz_if1 (zz_b1 h)] at hf
    refine lv_aload_n hx hb dX8_could_21 rfl (lv_at hl 0 rfl) ?_
    refine lv_iload_n hx hb dX8_could_22 rfl (lv_at hl 2 rfl) ?_
    refine zz_callVi C (As := [.int v2]) (rest := []) (zc_X8_isNoTickToPlan _ _) (cwV 1 hts gX8_could_X8_isNoTickToPlan rfl rfl rfl zd_X8_isNoTickToPlan ⟨Nat.le_of_ble_eq_true rfl, Nat.le_of_ble_eq_true rfl⟩) hP hS 0 rfl rfl rfl hl rfl (Nat.le_of_ble_eq_true rfl) dX8_could_23 ⟨Nat.zero_le _, Nat.zero_le _⟩ (fun H locs hP hS => ?_)
    refine lv_if_eq (tgt := 39) hx hb dX8_could_26 (by decide) (fun h => ?_) (fun h => ?_)
    · rw [zz_if0 (zz_b0 h)] at hf
      refine lv_aload_n hx hb dX8_could_39 rfl (lv_at hl 0 rfl) ?_
      refine lv_iload_n hx hb dX8_could_40 rfl (lv_at hl 1 rfl) ?_
      refine zz_callVi C (As := [.int v1]) (rest := []) (zc_X8_isNotPlannable _ _) (cwV 1 hts gX8_could_X8_isNotPlannable rfl rfl rfl zd_X8_isNotPlannable ⟨Nat.le_of_ble_eq_true rfl, Nat.le_of_ble_eq_true rfl⟩) hP hS 0 rfl rfl rfl hl rfl (Nat.le_of_ble_eq_true rfl) dX8_could_41 ⟨Nat.zero_le _, Nat.zero_le _⟩ (fun H locs hP hS => ?_)
      refine lv_if_eq (tgt := 57) hx hb dX8_could_44 (by decide) (fun h => ?_) (fun h => ?_)
      · rw [zz_if0 (zz_b0 h)] at hf
        refine lv_aload_n hx hb dX8_could_57 rfl (lv_at hl 0 rfl) ?_
        refine zz_getf C zi_X8_could_X8 hP 0 rfl rfl 3 (nm := "trial") (ds := "LThirteenthDay$Paths;") (fin := true) rfl (by decide) zk_X8_could_30 rfl dX8_could_58 ?_
        refine lv_aload_n hx hb dX8_could_61 rfl (lv_at hl 0 rfl) ?_
        refine zz_getf C zi_X8_could_X8 hP 0 rfl rfl 2 (nm := "paths") (ds := "LThirteenthDay$Paths;") (fin := true) rfl (by decide) zk_X8_could_26 rfl dX8_could_62 ?_
        obtain ⟨st1, e2, hf⟩ := zz_vo hf
        refine zz_callVv C (As := [.ref (q 3)]) (rest := []) (zz_Mv_e e2 (zc_X2_copyFrom 4 11 (by decide) 3 6 (by decide) (by decide) _)) (cwV 1 hts gX8_could_X2_copyFrom rfl rfl rfl zd_X2_copyFrom ⟨Nat.le_of_ble_eq_true rfl, Nat.le_of_ble_eq_true rfl⟩) hP hS 4 rfl rfl rfl hl rfl (Nat.le_of_ble_eq_true rfl) dX8_could_65 ⟨Nat.zero_le _, Nat.zero_le _⟩ (fun H locs hP hS => ?_)
        refine lv_aload_n hx hb dX8_could_68 rfl (lv_at hl 0 rfl) ?_
        refine lv_aload_n hx hb dX8_could_69 rfl (lv_at hl 0 rfl) ?_
        refine zz_getf C zi_X8_could_X8 hP 0 rfl rfl 3 (nm := "trial") (ds := "LThirteenthDay$Paths;") (fin := true) rfl (by decide) zk_X8_could_30 rfl dX8_could_70 ?_
        refine lv_iload_n hx hb dX8_could_73 rfl (lv_at hl 1 rfl) ?_
        obtain ⟨x3, e4, hf⟩ := zz_bo hf
        refine zz_callVi C (As := [.ref (q 4), .int v1]) (rest := []) (zc_X8_dropWaiting 4 11 (by decide) _ _ _ e4) (cwV 2 hts gX8_could_X8_dropWaiting rfl rfl rfl zd_X8_dropWaiting ⟨Nat.le_of_ble_eq_true rfl, Nat.le_of_ble_eq_true rfl⟩) hP hS 0 rfl rfl rfl hl rfl (Nat.le_of_ble_eq_true rfl) dX8_could_74 ⟨Nat.zero_le _, Nat.zero_le _⟩ (fun H locs hP hS => ?_)
        refine lv_pop hx hb dX8_could_77 rfl ?_
        refine lv_aload_n hx hb dX8_could_78 rfl (lv_at hl 0 rfl) ?_
        refine lv_iload_n hx hb dX8_could_79 rfl (lv_at hl 1 rfl) ?_
        refine lv_aload_n hx hb dX8_could_80 rfl (lv_at hl 0 rfl) ?_
        refine zz_getf C zi_X8_could_X8 hP 0 rfl rfl 1 (nm := "units") (ds := "LThirteenthDay$Units;") (fin := true) rfl (by decide) zk_X8_could_19 rfl dX8_could_81 ?_
        refine lv_iload_n hx hb dX8_could_84 rfl (lv_at hl 1 rfl) ?_
        refine lv_iconst (v := 3) hx hb dX8_could_85 (by decide) ?_
        refine zz_callVi C (As := [.int v1, .int 3]) (rest := [.int v1, .ref (q 0)]) (zc_X7_get _ _ _) (cwV 2 hts gX8_could_X7_get rfl rfl rfl zd_X7_get ⟨Nat.le_of_ble_eq_true rfl, Nat.le_of_ble_eq_true rfl⟩) hP hS 2 rfl rfl rfl hl rfl (Nat.le_of_ble_eq_true rfl) dX8_could_86 ⟨Nat.zero_le _, Nat.zero_le _⟩ (fun H locs hP hS => ?_)
        refine lv_iload_n hx hb dX8_could_89 rfl (lv_at hl 2 rfl) ?_
        obtain ⟨x5, e6, hf⟩ := zz_bo hf
        refine zz_callVi C (As := [.int v1, .int (zX7_get v1 3 x3.2), .int v2]) (rest := []) (zc_X8_planUnit _ _ _ _ _ e6) (cwV 3 hts gX8_could_X8_planUnit rfl rfl rfl zd_X8_planUnit ⟨Nat.le_of_ble_eq_true rfl, Nat.le_of_ble_eq_true rfl⟩) hP hS 0 rfl rfl rfl hl rfl (Nat.le_of_ble_eq_true rfl) dX8_could_90 ⟨Nat.zero_le _, Nat.zero_le _⟩ (fun H locs hP hS => ?_)
        rw [← (Option.some.inj hf)]
        exact zz_reti C hr hP hS dX8_could_93
      · rw [zz_if1 (zz_b1 h)] at hf
        cases hf
    · rw [zz_if1 (zz_b1 h)] at hf
      cases hf
  · rw [zz_if0 (zz_b0 h)] at hf
    cases hf
/-! X0_toldFromTo PR -/
theorem zd_X0_toldFromTo : yX0_toldFromTo.cls = RX0 ∧ yX0_toldFromTo.cls ≠ "java/lang/invoke/MethodHandle" ∧ yX0_toldFromTo.cls ≠ "java/lang/invoke/VarHandle" ∧ (parseMethodDescriptor yX0_toldFromTo.desc).map (fun d => d.parameters.length) = some 4 := by decide +kernel
abbrev zr_X0_toldFromTo : Room := { frames := 1, cells := 0, slots := 0, locals := 24 }
theorem zk_X0_toldFromTo_20 : Cond.fieldLink yX0_toldFromTo.cls 20 RX0 "plans" "LThirteenthDay$Table;" ∈ wsX0_toldFromTo := by decide +kernel
theorem zk_X0_toldFromTo_16 : Cond.fieldLink yX0_toldFromTo.cls 16 RX0 "entries" "LThirteenthDay$Table;" ∈ wsX0_toldFromTo := by decide +kernel
theorem zi_X0_toldFromTo_X0 : ∀ w ∈ u_ws RX0 TX0 4, w ∈ wsX0_toldFromTo := by decide +kernel
def zX0_toldFromTo_73 (k6 : Int32 → Int32 → Int32 → Int32 → Int32 → Int32 → zz_T → Option Int32) (v1 : Int32) (v2 : Int32) (v3 : Int32) (v4 : Int32) (v5 : Int32) (v6 : Int32) (v7 : Int32) (k0 : Bool) (st : zz_T) : Option Int32 :=
  if k0 = true then
    zz_v (v5 + (zz_g 20 v7 2 st)) fun w4 =>
    k6 v1 v2 v3 v4 w4 (v6 + 1) st
  else
    zz_v (v5 + 0) fun w3 =>
    k6 v1 v2 v3 v4 w3 (v6 + 1) st
set_option maxHeartbeats 4000000 in
set_option maxRecDepth 100000 in
theorem zt_X0_toldFromTo_73 {l : Launch} {A : Nat → Prop} {D : va_G} {cI : ClassId} {q : Nat → Nat} {p : Program} {e : Env} {s : State} {m : MethodId} {args : Array Value} {below : List Frame} {meth : Method} {c : Code} (C : zz_C A D cI q p s m args meth c cX0_toldFromTo 10 wsX0_toldFromTo yX0_toldFromTo.cls) (hr : meth.sig.returnType = some .int) (k6 : Int32 → Int32 → Int32 → Int32 → Int32 → Int32 → zz_T → Option Int32) (hk6 : ∀ (v1 : Int32) (v2 : Int32) (v3 : Int32) (v4 : Int32) (v5 : Int32) (v6 : Int32) (st : zz_T) (H : Heap) (locs : List Loc) (ls : Array Slot) (r : Int32), k6 v1 v2 v3 v4 v5 v6 st = some r → va_P D vwCl (zz_c q cI st) H → va_S A s.heap H locs → lv_has ls 10 [(0, .ref (q 8)), (1, .int v1), (2, .int v2), (3, .int v3), (4, .int v4), (5, .int v5), (6, .int v6)] → W p l e zr_X0_toldFromTo s m args below meth c H locs 0 0 (zz_Qi A D cI q r st below args s) (F0 m 6 ls [])) : ∀ (v1 : Int32) (v2 : Int32) (v3 : Int32) (v4 : Int32) (v5 : Int32) (v6 : Int32) (v7 : Int32) (k0 : Bool) (st : zz_T) (H : Heap) (locs : List Loc) (ls : Array Slot) (r : Int32), zX0_toldFromTo_73 k6 v1 v2 v3 v4 v5 v6 v7 k0 st = some r → va_P D vwCl (zz_c q cI st) H → va_S A s.heap H locs → lv_has ls 10 [(0, .ref (q 8)), (1, .int v1), (2, .int v2), (3, .int v3), (4, .int v4), (5, .int v5), (6, .int v6), (7, .int v7)] → W p l e zr_X0_toldFromTo s m args below meth c H locs 0 0 (zz_Qi A D cI q r st below args s) (F0 m 73 ls [.int (zz_b k0)]) := by
  obtain ⟨hx, hb, hml, hown, hts⟩ := id C.1
  intro v1 v2 v3 v4 v5 v6 v7 k0 st H locs ls r hf hP hS hl
  rw [zX0_toldFromTo_73] at hf
  refine lv_istore (lv' := [(9, .int (zz_b k0)), (0, .ref (q 8)), (1, .int v1), (2, .int v2), (3, .int v3), (4, .int v4), (5, .int v5), (6, .int v6), (7, .int v7)]) hx hb dX0_toldFromTo_73 hl (by decide) rfl (fun ls hl => ?_)
  refine lv_iload hx hb dX0_toldFromTo_75 (lv_at hl 6 rfl) ?_
  refine lv_iload hx hb dX0_toldFromTo_77 (lv_at hl 0 rfl) ?_
  refine lv_if_eq (tgt := 95) hx hb dX0_toldFromTo_79 (by decide) (fun h => ?_) (fun h => ?_)
  · rw [zz_if0 (zz_b0 h)] at hf
    refine lv_iconst (v := 0) hx hb dX0_toldFromTo_95 (by decide) ?_
    refine lv_iadd hx hb dX0_toldFromTo_96 ?_
    refine lv_topi (fun w3 e3 => ?_)
    replace hf := zz_vi hf e3
    refine lv_istore (lv' := [(5, .int w3), (9, .int (zz_b k0)), (0, .ref (q 8)), (1, .int v1), (2, .int v2), (3, .int v3), (4, .int v4), (6, .int v6), (7, .int v7)]) hx hb dX0_toldFromTo_97 hl (by decide) rfl (fun ls hl => ?_)
    refine lv_iinc (v := (v6 + 1)) (lv' := [(6, .int (v6 + 1)), (5, .int w3), (9, .int (zz_b k0)), (0, .ref (q 8)), (1, .int v1), (2, .int v2), (3, .int v3), (4, .int v4), (7, .int v7)]) hx hb dX0_toldFromTo_99 hl (k := 7) rfl (congrArg (fun z => v6 + z) (by decide)) (by decide) rfl (fun ls hl => ?_)
    refine lv_goto (tgt := 6) hx hb dX0_toldFromTo_102 (by decide) ?_
    exact hk6 _ _ _ _ _ _ _ _ _ _ _ hf hP hS (lv_sub hl [3, 4, 5, 6, 7, 1, 0] rfl)
  · rw [zz_if1 (zz_b1 h)] at hf
    refine lv_aload_n hx hb dX0_toldFromTo_82 rfl (lv_at hl 1 rfl) ?_
    refine zz_getf C zi_X0_toldFromTo_X0 hP 8 rfl rfl 0 (nm := "entries") (ds := "LThirteenthDay$Table;") (fin := true) rfl (by decide) zk_X0_toldFromTo_16 rfl dX0_toldFromTo_83 ?_
    refine lv_iload hx hb dX0_toldFromTo_86 (lv_at hl 8 rfl) ?_
    refine lv_iconst (v := 2) hx hb dX0_toldFromTo_88 (by decide) ?_
    refine zz_callVi C (As := [.int v7, .int 2]) (rest := [.int v5]) (zc_X5_get 20 (by decide) _ _ _) (cwV 2 hts gX0_toldFromTo_X5_get rfl rfl rfl zd_X5_get ⟨Nat.le_of_ble_eq_true rfl, Nat.le_of_ble_eq_true rfl⟩) hP hS (9 + 20) (zz_c_tab (by decide)) rfl rfl hl rfl (Nat.le_of_ble_eq_true rfl) dX0_toldFromTo_89 ⟨Nat.zero_le _, Nat.zero_le _⟩ (fun H locs hP hS => ?_)
    refine lv_goto (tgt := 96) hx hb dX0_toldFromTo_92 (by decide) ?_
    refine lv_iadd hx hb dX0_toldFromTo_96 ?_
    refine lv_topi (fun w4 e4 => ?_)
    replace hf := zz_vi hf e4
    refine lv_istore (lv' := [(5, .int w4), (9, .int (zz_b k0)), (0, .ref (q 8)), (1, .int v1), (2, .int v2), (3, .int v3), (4, .int v4), (6, .int v6), (7, .int v7)]) hx hb dX0_toldFromTo_97 hl (by decide) rfl (fun ls hl => ?_)
    refine lv_iinc (v := (v6 + 1)) (lv' := [(6, .int (v6 + 1)), (5, .int w4), (9, .int (zz_b k0)), (0, .ref (q 8)), (1, .int v1), (2, .int v2), (3, .int v3), (4, .int v4), (7, .int v7)]) hx hb dX0_toldFromTo_99 hl (k := 7) rfl (congrArg (fun z => v6 + z) (by decide)) (by decide) rfl (fun ls hl => ?_)
    refine lv_goto (tgt := 6) hx hb dX0_toldFromTo_102 (by decide) ?_
    exact hk6 _ _ _ _ _ _ _ _ _ _ _ hf hP hS (lv_sub hl [3, 4, 5, 6, 7, 1, 0] rfl)
def zX0_toldFromTo_6 : Nat → Int32 → Int32 → Int32 → Int32 → Int32 → Int32 → zz_T → Option Int32
  | 0, _, _, _, _, _, _, _ => none
  | n + 1, v1, v2, v3, v4, v5, v6, st =>
    if (zz_g 21 v1 0 st) ≤ v6 then
      some v5
    else
      zz_v ((v1 * 6) + v6) fun w1 =>
      zz_v (zz_g 20 w1 1 st) fun w2 =>
      if (zz_g 20 w1 0 st) = v2 then
        if w2 < v3 then
          zX0_toldFromTo_73 (fun v1' v2' v3' v4' v5' v6' st' => zX0_toldFromTo_6 n v1' v2' v3' v4' v5' v6' st') v1 v2 v3 v4 v5 v6 w1 false st
        else
          if v4 < w2 then
            zX0_toldFromTo_73 (fun v1' v2' v3' v4' v5' v6' st' => zX0_toldFromTo_6 n v1' v2' v3' v4' v5' v6' st') v1 v2 v3 v4 v5 v6 w1 false st
          else
            zX0_toldFromTo_73 (fun v1' v2' v3' v4' v5' v6' st' => zX0_toldFromTo_6 n v1' v2' v3' v4' v5' v6' st') v1 v2 v3 v4 v5 v6 w1 true st
      else
        zX0_toldFromTo_73 (fun v1' v2' v3' v4' v5' v6' st' => zX0_toldFromTo_6 n v1' v2' v3' v4' v5' v6' st') v1 v2 v3 v4 v5 v6 w1 false st
set_option maxHeartbeats 4000000 in
set_option maxRecDepth 100000 in
theorem zt_X0_toldFromTo_6 {l : Launch} {A : Nat → Prop} {D : va_G} {cI : ClassId} {q : Nat → Nat} {p : Program} {e : Env} {s : State} {m : MethodId} {args : Array Value} {below : List Frame} {meth : Method} {c : Code} (C : zz_C A D cI q p s m args meth c cX0_toldFromTo 10 wsX0_toldFromTo yX0_toldFromTo.cls) (hr : meth.sig.returnType = some .int) : ∀ (n : Nat) (v1 : Int32) (v2 : Int32) (v3 : Int32) (v4 : Int32) (v5 : Int32) (v6 : Int32) (st : zz_T) (H : Heap) (locs : List Loc) (ls : Array Slot) (r : Int32), zX0_toldFromTo_6 n v1 v2 v3 v4 v5 v6 st = some r → va_P D vwCl (zz_c q cI st) H → va_S A s.heap H locs → lv_has ls 10 [(0, .ref (q 8)), (1, .int v1), (2, .int v2), (3, .int v3), (4, .int v4), (5, .int v5), (6, .int v6)] → W p l e zr_X0_toldFromTo s m args below meth c H locs 0 0 (zz_Qi A D cI q r st below args s) (F0 m 6 ls []) := by
  obtain ⟨hx, hb, hml, hown, hts⟩ := id C.1
  intro n
  induction n with
  | zero => intro v1 v2 v3 v4 v5 v6 st H locs ls r hf; cases hf
  | succ n ih =>
    intro v1 v2 v3 v4 v5 v6 st H locs ls r hf hP hS hl
    rw [zX0_toldFromTo_6] at hf
    refine lv_iload hx hb dX0_toldFromTo_6 (lv_at hl 6 rfl) ?_
    refine lv_aload_n hx hb dX0_toldFromTo_8 rfl (lv_at hl 0 rfl) ?_
    refine zz_getf C zi_X0_toldFromTo_X0 hP 8 rfl rfl 1 (nm := "plans") (ds := "LThirteenthDay$Table;") (fin := true) rfl (by decide) zk_X0_toldFromTo_20 rfl dX0_toldFromTo_9 ?_
    refine lv_iload_n hx hb dX0_toldFromTo_12 rfl (lv_at hl 1 rfl) ?_
    refine lv_iconst (v := 0) hx hb dX0_toldFromTo_13 (by decide) ?_
    refine zz_callVi C (As := [.int v1, .int 0]) (rest := [.int v6]) (zc_X5_get 21 (by decide) _ _ _) (cwV 2 hts gX0_toldFromTo_X5_get rfl rfl rfl zd_X5_get ⟨Nat.le_of_ble_eq_true rfl, Nat.le_of_ble_eq_true rfl⟩) hP hS (9 + 21) (zz_c_tab (by decide)) rfl rfl hl rfl (Nat.le_of_ble_eq_true rfl) dX0_toldFromTo_14 ⟨Nat.zero_le _, Nat.zero_le _⟩ (fun H locs hP hS => ?_)
    refine lv_icmp_ge (tgt := 105) hx hb dX0_toldFromTo_17 (by decide) (fun h => ?_) (fun h => ?_)
    · rw [if_pos h] at hf
      refine lv_iload hx hb dX0_toldFromTo_105 (lv_at hl 5 rfl) ?_
      rw [← (Option.some.inj hf)]
      exact zz_reti C hr hP hS dX0_toldFromTo_107
    · rw [if_neg h] at hf
      refine lv_iload_n hx hb dX0_toldFromTo_20 rfl (lv_at hl 1 rfl) ?_
      refine lv_bipush (v := 6) hx hb dX0_toldFromTo_21 (by decide) ?_
      refine lv_imul hx hb dX0_toldFromTo_23 ?_
      refine lv_iload hx hb dX0_toldFromTo_24 (lv_at hl 6 rfl) ?_
      refine lv_iadd hx hb dX0_toldFromTo_26 ?_
      refine lv_topi (fun w1 e1 => ?_)
      replace hf := zz_vi hf e1
      refine lv_istore (lv' := [(7, .int w1), (0, .ref (q 8)), (1, .int v1), (2, .int v2), (3, .int v3), (4, .int v4), (5, .int v5), (6, .int v6)]) hx hb dX0_toldFromTo_27 hl (by decide) rfl (fun ls hl => ?_)
      refine lv_aload_n hx hb dX0_toldFromTo_29 rfl (lv_at hl 1 rfl) ?_
      refine zz_getf C zi_X0_toldFromTo_X0 hP 8 rfl rfl 0 (nm := "entries") (ds := "LThirteenthDay$Table;") (fin := true) rfl (by decide) zk_X0_toldFromTo_16 rfl dX0_toldFromTo_30 ?_
      refine lv_iload hx hb dX0_toldFromTo_33 (lv_at hl 0 rfl) ?_
      refine lv_iconst (v := 1) hx hb dX0_toldFromTo_35 (by decide) ?_
      refine zz_callVi C (As := [.int w1, .int 1]) (rest := []) (zc_X5_get 20 (by decide) _ _ _) (cwV 2 hts gX0_toldFromTo_X5_get rfl rfl rfl zd_X5_get ⟨Nat.le_of_ble_eq_true rfl, Nat.le_of_ble_eq_true rfl⟩) hP hS (9 + 20) (zz_c_tab (by decide)) rfl rfl hl rfl (Nat.le_of_ble_eq_true rfl) dX0_toldFromTo_36 ⟨Nat.zero_le _, Nat.zero_le _⟩ (fun H locs hP hS => ?_)
      refine lv_topi (fun w2 e2 => ?_)
      replace hf := zz_vi hf e2
      refine lv_istore (lv' := [(8, .int w2), (7, .int w1), (0, .ref (q 8)), (1, .int v1), (2, .int v2), (3, .int v3), (4, .int v4), (5, .int v5), (6, .int v6)]) hx hb dX0_toldFromTo_39 hl (by decide) rfl (fun ls hl => ?_)
      refine lv_aload_n hx hb dX0_toldFromTo_41 rfl (lv_at hl 2 rfl) ?_
      refine zz_getf C zi_X0_toldFromTo_X0 hP 8 rfl rfl 0 (nm := "entries") (ds := "LThirteenthDay$Table;") (fin := true) rfl (by decide) zk_X0_toldFromTo_16 rfl dX0_toldFromTo_42 ?_
      refine lv_iload hx hb dX0_toldFromTo_45 (lv_at hl 1 rfl) ?_
      refine lv_iconst (v := 0) hx hb dX0_toldFromTo_47 (by decide) ?_
      refine zz_callVi C (As := [.int w1, .int 0]) (rest := []) (zc_X5_get 20 (by decide) _ _ _) (cwV 2 hts gX0_toldFromTo_X5_get rfl rfl rfl zd_X5_get ⟨Nat.le_of_ble_eq_true rfl, Nat.le_of_ble_eq_true rfl⟩) hP hS (9 + 20) (zz_c_tab (by decide)) rfl rfl hl rfl (Nat.le_of_ble_eq_true rfl) dX0_toldFromTo_48 ⟨Nat.zero_le _, Nat.zero_le _⟩ (fun H locs hP hS => ?_)
      refine lv_iload_n hx hb dX0_toldFromTo_51 rfl (lv_at hl 4 rfl) ?_
      refine lv_icmp_ne (tgt := 72) hx hb dX0_toldFromTo_52 (by decide) (fun h => ?_) (fun h => ?_)
      · rw [if_neg h] at hf
        refine lv_iconst (v := 0) hx hb dX0_toldFromTo_72 (by decide) ?_
        exact zt_X0_toldFromTo_73 C hr _ ih _ _ _ _ _ _ _ _ _ _ _ _ _ hf hP hS (lv_sub hl [2, 3, 4, 5, 6, 7, 8, 1] rfl)
      · rw [if_pos h] at hf
        refine lv_iload hx hb dX0_toldFromTo_55 (lv_at hl 0 rfl) ?_
        refine lv_iload_n hx hb dX0_toldFromTo_57 rfl (lv_at hl 5 rfl) ?_
        refine lv_icmp_lt (tgt := 72) hx hb dX0_toldFromTo_58 (by decide) (fun h => ?_) (fun h => ?_)
        · rw [if_pos h] at hf
          refine lv_iconst (v := 0) hx hb dX0_toldFromTo_72 (by decide) ?_
          exact zt_X0_toldFromTo_73 C hr _ ih _ _ _ _ _ _ _ _ _ _ _ _ _ hf hP hS (lv_sub hl [2, 3, 4, 5, 6, 7, 8, 1] rfl)
        · rw [if_neg h] at hf
          refine lv_iload hx hb dX0_toldFromTo_61 (lv_at hl 0 rfl) ?_
          refine lv_iload hx hb dX0_toldFromTo_63 (lv_at hl 6 rfl) ?_
          refine lv_icmp_gt (tgt := 72) hx hb dX0_toldFromTo_65 (by decide) (fun h => ?_) (fun h => ?_)
          · rw [if_pos h] at hf
            refine lv_iconst (v := 0) hx hb dX0_toldFromTo_72 (by decide) ?_
            exact zt_X0_toldFromTo_73 C hr _ ih _ _ _ _ _ _ _ _ _ _ _ _ _ hf hP hS (lv_sub hl [2, 3, 4, 5, 6, 7, 8, 1] rfl)
          · rw [if_neg h] at hf
            refine lv_iconst (v := 1) hx hb dX0_toldFromTo_68 (by decide) ?_
            refine lv_goto (tgt := 73) hx hb dX0_toldFromTo_69 (by decide) ?_
            exact zt_X0_toldFromTo_73 C hr _ ih _ _ _ _ _ _ _ _ _ _ _ _ _ hf hP hS (lv_sub hl [2, 3, 4, 5, 6, 7, 8, 1] rfl)
def zX0_toldFromTo (v1 : Int32) (v2 : Int32) (v3 : Int32) (v4 : Int32) (st : zz_T) : Option Int32 :=
  zX0_toldFromTo_6 zz_N v1 v2 v3 v4 0 0 st
set_option maxHeartbeats 4000000 in
set_option maxRecDepth 100000 in
theorem zc_X0_toldFromTo {l : Launch} {A : Nat → Prop} {D : va_G} {cI : ClassId} {q : Nat → Nat} (v1 : Int32) (v2 : Int32) (v3 : Int32) (v4 : Int32) (st : zz_T) (r : Int32) (hf : zX0_toldFromTo v1 v2 v3 v4 st = some r) : zz_Mi l A D cI q yX0_toldFromTo wsX0_toldFromTo zr_X0_toldFromTo [.ref (q 8), .int v1, .int v2, .int v3, .int v4] st r st := by
  refine zz_of (cc := cX0_toldFromTo) (nL := 10) (ret := some .int) (by decide) rfl (Nat.le_of_ble_eq_true rfl) ?_
  intro p e s m args below meth c ls C hr hP hS hl
  obtain ⟨hx, hb, hml, hown, hts⟩ := id C.1
  have hl : lv_has ls 10 [(0, .ref (q 8)), (1, .int v1), (2, .int v2), (3, .int v3), (4, .int v4)] := hl
  rw [zX0_toldFromTo] at hf
  skip
  refine lv_iconst (v := 0) hx hb dX0_toldFromTo_0 (by decide) ?_
  refine lv_istore (lv' := [(5, .int 0), (0, .ref (q 8)), (1, .int v1), (2, .int v2), (3, .int v3), (4, .int v4)]) hx hb dX0_toldFromTo_1 hl (by decide) rfl (fun ls hl => ?_)
  refine lv_iconst (v := 0) hx hb dX0_toldFromTo_3 (by decide) ?_
  refine lv_istore (lv' := [(6, .int 0), (5, .int 0), (0, .ref (q 8)), (1, .int v1), (2, .int v2), (3, .int v3), (4, .int v4)]) hx hb dX0_toldFromTo_4 hl (by decide) rfl (fun ls hl => ?_)
  exact zt_X0_toldFromTo_6 C hr zz_N _ _ _ _ _ _ _ _ _ _ _ hf hP hS (lv_sub hl [2, 3, 4, 5, 6, 1, 0] rfl)
/-! X0_isPossible PR -/
theorem zd_X0_isPossible : yX0_isPossible.cls = RX0 ∧ yX0_isPossible.cls ≠ "java/lang/invoke/MethodHandle" ∧ yX0_isPossible.cls ≠ "java/lang/invoke/VarHandle" ∧ (parseMethodDescriptor yX0_isPossible.desc).map (fun d => d.parameters.length) = some 2 := by decide +kernel
abbrev zr_X0_isPossible : Room := { frames := 2, cells := 0, slots := 0, locals := 53 }
theorem zk_X0_isPossible_23 : Cond.fieldLink yX0_isPossible.cls 23 RX0 "came" "LThirteenthDay$Table;" ∈ wsX0_isPossible := by decide +kernel
theorem zi_X0_isPossible_X0 : ∀ w ∈ u_ws RX0 TX0 4, w ∈ wsX0_isPossible := by decide +kernel
def zX0_isPossible_12 (k2 : Int32 → Int32 → Int32 → zz_T → Option Bool) : Nat → Int32 → Int32 → Int32 → Int32 → zz_T → Option Bool
  | 0, _, _, _, _, _ => none
  | n + 1, v1, v2, v3, v4, st =>
    if 3 ≤ v4 then
      k2 v1 v2 (v3 + 1) st
    else
      (zX0_toldFromTo v1 v4 v3 v3 st).bind fun x1 =>
      if x1 = (zz_g 22 v4 v3 st) then
        zX0_isPossible_12 k2 n v1 v2 v3 (v4 + 1) st
      else
        some false
set_option maxHeartbeats 4000000 in
set_option maxRecDepth 100000 in
theorem zt_X0_isPossible_12 {l : Launch} {A : Nat → Prop} {D : va_G} {cI : ClassId} {q : Nat → Nat} {p : Program} {e : Env} {s : State} {m : MethodId} {args : Array Value} {below : List Frame} {meth : Method} {c : Code} (C : zz_C A D cI q p s m args meth c cX0_isPossible 5 wsX0_isPossible yX0_isPossible.cls) (hr : meth.sig.returnType = some .boolean) (k2 : Int32 → Int32 → Int32 → zz_T → Option Bool) (hk2 : ∀ (v1 : Int32) (v2 : Int32) (v3 : Int32) (st : zz_T) (H : Heap) (locs : List Loc) (ls : Array Slot) (r : Bool), k2 v1 v2 v3 st = some r → va_P D vwCl (zz_c q cI st) H → va_S A s.heap H locs → lv_has ls 5 [(0, .ref (q 8)), (1, .int v1), (2, .int v2), (3, .int v3)] → W p l e zr_X0_isPossible s m args below meth c H locs 0 0 (zz_Qi A D cI q (zz_b r) st below args s) (F0 m 2 ls [])) : ∀ (n : Nat) (v1 : Int32) (v2 : Int32) (v3 : Int32) (v4 : Int32) (st : zz_T) (H : Heap) (locs : List Loc) (ls : Array Slot) (r : Bool), zX0_isPossible_12 k2 n v1 v2 v3 v4 st = some r → va_P D vwCl (zz_c q cI st) H → va_S A s.heap H locs → lv_has ls 5 [(0, .ref (q 8)), (1, .int v1), (2, .int v2), (3, .int v3), (4, .int v4)] → W p l e zr_X0_isPossible s m args below meth c H locs 0 0 (zz_Qi A D cI q (zz_b r) st below args s) (F0 m 12 ls []) := by
  obtain ⟨hx, hb, hml, hown, hts⟩ := id C.1
  intro n
  induction n with
  | zero => intro v1 v2 v3 v4 st H locs ls r hf; cases hf
  | succ n ih =>
    intro v1 v2 v3 v4 st H locs ls r hf hP hS hl
    rw [zX0_isPossible_12] at hf
    refine lv_iload hx hb dX0_isPossible_12 (lv_at hl 4 rfl) ?_
    refine lv_iconst (v := 3) hx hb dX0_isPossible_14 (by decide) ?_
    refine lv_icmp_ge (tgt := 48) hx hb dX0_isPossible_15 (by decide) (fun h => ?_) (fun h => ?_)
    · rw [if_pos h] at hf
      refine lv_iinc (v := (v3 + 1)) (lv' := [(3, .int (v3 + 1)), (0, .ref (q 8)), (1, .int v1), (2, .int v2), (4, .int v4)]) hx hb dX0_isPossible_48 hl (k := 3) rfl (congrArg (fun z => v3 + z) (by decide)) (by decide) rfl (fun ls hl => ?_)
      refine lv_goto (tgt := 2) hx hb dX0_isPossible_51 (by decide) ?_
      exact hk2 _ _ _ _ _ _ _ _ hf hP hS (lv_sub hl [1, 2, 3, 0] rfl)
    · rw [if_neg h] at hf
      refine lv_aload_n hx hb dX0_isPossible_18 rfl (lv_at hl 0 rfl) ?_
      refine lv_iload_n hx hb dX0_isPossible_19 rfl (lv_at hl 1 rfl) ?_
      refine lv_iload hx hb dX0_isPossible_20 (lv_at hl 4 rfl) ?_
      refine lv_iload_n hx hb dX0_isPossible_22 rfl (lv_at hl 3 rfl) ?_
      refine lv_iload_n hx hb dX0_isPossible_23 rfl (lv_at hl 3 rfl) ?_
      obtain ⟨x1, e2, hf⟩ := zz_bo hf
      refine zz_callVi C (As := [.int v1, .int v4, .int v3, .int v3]) (rest := []) (zc_X0_toldFromTo _ _ _ _ _ _ e2) (cwV 4 hts gX0_isPossible_X0_toldFromTo rfl rfl rfl zd_X0_toldFromTo ⟨Nat.le_of_ble_eq_true rfl, Nat.le_of_ble_eq_true rfl⟩) hP hS 8 rfl rfl rfl hl rfl (Nat.le_of_ble_eq_true rfl) dX0_isPossible_24 ⟨Nat.zero_le _, Nat.zero_le _⟩ (fun H locs hP hS => ?_)
      refine lv_aload_n hx hb dX0_isPossible_27 rfl (lv_at hl 0 rfl) ?_
      refine zz_getf C zi_X0_isPossible_X0 hP 8 rfl rfl 2 (nm := "came") (ds := "LThirteenthDay$Table;") (fin := true) rfl (by decide) zk_X0_isPossible_23 rfl dX0_isPossible_28 ?_
      refine lv_iload hx hb dX0_isPossible_31 (lv_at hl 4 rfl) ?_
      refine lv_iload_n hx hb dX0_isPossible_33 rfl (lv_at hl 3 rfl) ?_
      refine zz_callVi C (As := [.int v4, .int v3]) (rest := [.int x1]) (zc_X5_get 22 (by decide) _ _ _) (cwV 2 hts gX0_isPossible_X5_get rfl rfl rfl zd_X5_get ⟨Nat.le_of_ble_eq_true rfl, Nat.le_of_ble_eq_true rfl⟩) hP hS (9 + 22) (zz_c_tab (by decide)) rfl rfl hl rfl (Nat.le_of_ble_eq_true rfl) dX0_isPossible_34 ⟨Nat.zero_le _, Nat.zero_le _⟩ (fun H locs hP hS => ?_)
      refine lv_icmp_eq (tgt := 42) hx hb dX0_isPossible_37 (by decide) (fun h => ?_) (fun h => ?_)
      · rw [if_pos h] at hf
        refine lv_iinc (v := (v4 + 1)) (lv' := [(4, .int (v4 + 1)), (0, .ref (q 8)), (1, .int v1), (2, .int v2), (3, .int v3)]) hx hb dX0_isPossible_42 hl (k := 4) rfl (congrArg (fun z => v4 + z) (by decide)) (by decide) rfl (fun ls hl => ?_)
        refine lv_goto (tgt := 12) hx hb dX0_isPossible_45 (by decide) ?_
        exact ih _ _ _ _ _ _ _ _ _ hf hP hS (lv_sub hl [1, 2, 3, 4, 0] rfl)
      · rw [if_neg h] at hf
        refine lv_iconst (v := 0) hx hb dX0_isPossible_40 (by decide) ?_
        rw [← (Option.some.inj hf)]
        exact zz_retz (v := false) C hr hP hS dX0_isPossible_41
def zX0_isPossible_2 : Nat → Int32 → Int32 → Int32 → zz_T → Option Bool
  | 0, _, _, _, _ => none
  | n + 1, v1, v2, v3, st =>
    if (v2 - 2) < v3 then
      some true
    else
      zX0_isPossible_12 (fun v1' v2' v3' st' => zX0_isPossible_2 n v1' v2' v3' st') zz_N v1 v2 v3 0 st
set_option maxHeartbeats 4000000 in
set_option maxRecDepth 100000 in
theorem zt_X0_isPossible_2 {l : Launch} {A : Nat → Prop} {D : va_G} {cI : ClassId} {q : Nat → Nat} {p : Program} {e : Env} {s : State} {m : MethodId} {args : Array Value} {below : List Frame} {meth : Method} {c : Code} (C : zz_C A D cI q p s m args meth c cX0_isPossible 5 wsX0_isPossible yX0_isPossible.cls) (hr : meth.sig.returnType = some .boolean) : ∀ (n : Nat) (v1 : Int32) (v2 : Int32) (v3 : Int32) (st : zz_T) (H : Heap) (locs : List Loc) (ls : Array Slot) (r : Bool), zX0_isPossible_2 n v1 v2 v3 st = some r → va_P D vwCl (zz_c q cI st) H → va_S A s.heap H locs → lv_has ls 5 [(0, .ref (q 8)), (1, .int v1), (2, .int v2), (3, .int v3)] → W p l e zr_X0_isPossible s m args below meth c H locs 0 0 (zz_Qi A D cI q (zz_b r) st below args s) (F0 m 2 ls []) := by
  obtain ⟨hx, hb, hml, hown, hts⟩ := id C.1
  intro n
  induction n with
  | zero => intro v1 v2 v3 st H locs ls r hf; cases hf
  | succ n ih =>
    intro v1 v2 v3 st H locs ls r hf hP hS hl
    rw [zX0_isPossible_2] at hf
    refine lv_iload_n hx hb dX0_isPossible_2 rfl (lv_at hl 3 rfl) ?_
    refine lv_iload_n hx hb dX0_isPossible_3 rfl (lv_at hl 2 rfl) ?_
    refine lv_iconst (v := 2) hx hb dX0_isPossible_4 (by decide) ?_
    refine lv_isub hx hb dX0_isPossible_5 ?_
    refine lv_icmp_gt (tgt := 54) hx hb dX0_isPossible_6 (by decide) (fun h => ?_) (fun h => ?_)
    · rw [if_pos h] at hf
      refine lv_iconst (v := 1) hx hb dX0_isPossible_54 (by decide) ?_
      rw [← (Option.some.inj hf)]
      exact zz_retz (v := true) C hr hP hS dX0_isPossible_55
    · rw [if_neg h] at hf
      refine lv_iconst (v := 0) hx hb dX0_isPossible_9 (by decide) ?_
      refine lv_istore (lv' := [(4, .int 0), (0, .ref (q 8)), (1, .int v1), (2, .int v2), (3, .int v3)]) hx hb dX0_isPossible_10 hl (by decide) rfl (fun ls hl => ?_)
      exact zt_X0_isPossible_12 C hr _ ih zz_N _ _ _ _ _ _ _ _ _ hf hP hS (lv_sub hl [1, 2, 3, 4, 0] rfl)
def zX0_isPossible (v1 : Int32) (v2 : Int32) (st : zz_T) : Option Bool :=
  zX0_isPossible_2 zz_N v1 v2 0 st
set_option maxHeartbeats 4000000 in
set_option maxRecDepth 100000 in
theorem zc_X0_isPossible {l : Launch} {A : Nat → Prop} {D : va_G} {cI : ClassId} {q : Nat → Nat} (v1 : Int32) (v2 : Int32) (st : zz_T) (r : Bool) (hf : zX0_isPossible v1 v2 st = some r) : zz_Mi l A D cI q yX0_isPossible wsX0_isPossible zr_X0_isPossible [.ref (q 8), .int v1, .int v2] st (zz_b r) st := by
  refine zz_of (cc := cX0_isPossible) (nL := 5) (ret := some .boolean) (by decide) rfl (Nat.le_of_ble_eq_true rfl) ?_
  intro p e s m args below meth c ls C hr hP hS hl
  obtain ⟨hx, hb, hml, hown, hts⟩ := id C.1
  have hl : lv_has ls 5 [(0, .ref (q 8)), (1, .int v1), (2, .int v2)] := hl
  rw [zX0_isPossible] at hf
  skip
  refine lv_iconst (v := 0) hx hb dX0_isPossible_0 (by decide) ?_
  refine lv_istore_n (lv' := [(3, .int 0), (0, .ref (q 8)), (1, .int v1), (2, .int v2)]) hx hb dX0_isPossible_1 rfl hl (by decide) rfl (fun ls hl => ?_)
  exact zt_X0_isPossible_2 C hr zz_N _ _ _ _ _ _ _ _ hf hP hS (lv_sub hl [1, 2, 3, 0] rfl)
/-! X0_guessOn PR -/
theorem zd_X0_guessOn : yX0_guessOn.cls = RX0 ∧ yX0_guessOn.cls ≠ "java/lang/invoke/MethodHandle" ∧ yX0_guessOn.cls ≠ "java/lang/invoke/VarHandle" ∧ (parseMethodDescriptor yX0_guessOn.desc).map (fun d => d.parameters.length) = some 1 := by decide +kernel
abbrev zr_X0_guessOn : Room := { frames := 3, cells := 0, slots := 0, locals := 77 }
theorem zk_X0_guessOn_20 : Cond.fieldLink yX0_guessOn.cls 20 RX0 "plans" "LThirteenthDay$Table;" ∈ wsX0_guessOn := by decide +kernel
theorem zi_X0_guessOn_X0 : ∀ w ∈ u_ws RX0 TX0 4, w ∈ wsX0_guessOn := by decide +kernel
def zX0_guessOn_40 (k4 : Int32 → Int32 → Int32 → zz_T → Option Int32) (v1 : Int32) (v2 : Int32) (v3 : Int32) (k0 : Bool) (st : zz_T) : Option Int32 :=
  if k0 = true then
    (zX0_isPossible v3 v1 st).bind fun x1 =>
    if x1 = true then
      k4 v1 v3 (v3 + 1) st
    else
      k4 v1 v2 (v3 + 1) st
  else
    k4 v1 v2 (v3 + 1) st
set_option maxHeartbeats 4000000 in
set_option maxRecDepth 100000 in
theorem zt_X0_guessOn_40 {l : Launch} {A : Nat → Prop} {D : va_G} {cI : ClassId} {q : Nat → Nat} {p : Program} {e : Env} {s : State} {m : MethodId} {args : Array Value} {below : List Frame} {meth : Method} {c : Code} (C : zz_C A D cI q p s m args meth c cX0_guessOn 5 wsX0_guessOn yX0_guessOn.cls) (hr : meth.sig.returnType = some .int) (k4 : Int32 → Int32 → Int32 → zz_T → Option Int32) (hk4 : ∀ (v1 : Int32) (v2 : Int32) (v3 : Int32) (st : zz_T) (H : Heap) (locs : List Loc) (ls : Array Slot) (r : Int32), k4 v1 v2 v3 st = some r → va_P D vwCl (zz_c q cI st) H → va_S A s.heap H locs → lv_has ls 5 [(0, .ref (q 8)), (1, .int v1), (2, .int v2), (3, .int v3)] → W p l e zr_X0_guessOn s m args below meth c H locs 0 0 (zz_Qi A D cI q r st below args s) (F0 m 4 ls [])) : ∀ (v1 : Int32) (v2 : Int32) (v3 : Int32) (k0 : Bool) (st : zz_T) (H : Heap) (locs : List Loc) (ls : Array Slot) (r : Int32), zX0_guessOn_40 k4 v1 v2 v3 k0 st = some r → va_P D vwCl (zz_c q cI st) H → va_S A s.heap H locs → lv_has ls 5 [(0, .ref (q 8)), (1, .int v1), (2, .int v2), (3, .int v3)] → W p l e zr_X0_guessOn s m args below meth c H locs 0 0 (zz_Qi A D cI q r st below args s) (F0 m 40 ls [.int (zz_b k0)]) := by
  obtain ⟨hx, hb, hml, hown, hts⟩ := id C.1
  intro v1 v2 v3 k0 st H locs ls r hf hP hS hl
  rw [zX0_guessOn_40] at hf
  refine lv_istore (lv' := [(4, .int (zz_b k0)), (0, .ref (q 8)), (1, .int v1), (2, .int v2), (3, .int v3)]) hx hb dX0_guessOn_40 hl (by decide) rfl (fun ls hl => ?_)
  refine lv_iload hx hb dX0_guessOn_42 (lv_at hl 0 rfl) ?_
  refine lv_if_eq (tgt := 58) hx hb dX0_guessOn_44 (by decide) (fun h => ?_) (fun h => ?_)
  · rw [zz_if0 (zz_b0 h)] at hf
    refine lv_iinc (v := (v3 + 1)) (lv' := [(3, .int (v3 + 1)), (4, .int (zz_b k0)), (0, .ref (q 8)), (1, .int v1), (2, .int v2)]) hx hb dX0_guessOn_58 hl (k := 4) rfl (congrArg (fun z => v3 + z) (by decide)) (by decide) rfl (fun ls hl => ?_)
    refine lv_goto (tgt := 4) hx hb dX0_guessOn_61 (by decide) ?_
    exact hk4 _ _ _ _ _ _ _ _ hf hP hS (lv_sub hl [2, 3, 4, 0] rfl)
  · rw [zz_if1 (zz_b1 h)] at hf
    refine lv_aload_n hx hb dX0_guessOn_47 rfl (lv_at hl 1 rfl) ?_
    refine lv_iload_n hx hb dX0_guessOn_48 rfl (lv_at hl 4 rfl) ?_
    refine lv_iload_n hx hb dX0_guessOn_49 rfl (lv_at hl 2 rfl) ?_
    obtain ⟨x1, e2, hf⟩ := zz_bo hf
    refine zz_callVi C (As := [.int v3, .int v1]) (rest := []) (zc_X0_isPossible _ _ _ _ e2) (cwV 2 hts gX0_guessOn_X0_isPossible rfl rfl rfl zd_X0_isPossible ⟨Nat.le_of_ble_eq_true rfl, Nat.le_of_ble_eq_true rfl⟩) hP hS 8 rfl rfl rfl hl rfl (Nat.le_of_ble_eq_true rfl) dX0_guessOn_50 ⟨Nat.zero_le _, Nat.zero_le _⟩ (fun H locs hP hS => ?_)
    refine lv_if_eq (tgt := 58) hx hb dX0_guessOn_53 (by decide) (fun h => ?_) (fun h => ?_)
    · rw [zz_if0 (zz_b0 h)] at hf
      refine lv_iinc (v := (v3 + 1)) (lv' := [(3, .int (v3 + 1)), (4, .int (zz_b k0)), (0, .ref (q 8)), (1, .int v1), (2, .int v2)]) hx hb dX0_guessOn_58 hl (k := 4) rfl (congrArg (fun z => v3 + z) (by decide)) (by decide) rfl (fun ls hl => ?_)
      refine lv_goto (tgt := 4) hx hb dX0_guessOn_61 (by decide) ?_
      exact hk4 _ _ _ _ _ _ _ _ hf hP hS (lv_sub hl [2, 3, 4, 0] rfl)
    · rw [zz_if1 (zz_b1 h)] at hf
      refine lv_iload_n hx hb dX0_guessOn_56 rfl (lv_at hl 4 rfl) ?_
      refine lv_istore_n (lv' := [(2, .int v3), (4, .int (zz_b k0)), (0, .ref (q 8)), (1, .int v1), (3, .int v3)]) hx hb dX0_guessOn_57 rfl hl (by decide) rfl (fun ls hl => ?_)
      refine lv_iinc (v := (v3 + 1)) (lv' := [(3, .int (v3 + 1)), (2, .int v3), (4, .int (zz_b k0)), (0, .ref (q 8)), (1, .int v1)]) hx hb dX0_guessOn_58 hl (k := 4) rfl (congrArg (fun z => v3 + z) (by decide)) (by decide) rfl (fun ls hl => ?_)
      refine lv_goto (tgt := 4) hx hb dX0_guessOn_61 (by decide) ?_
      exact hk4 _ _ _ _ _ _ _ _ hf hP hS (lv_sub hl [3, 4, 1, 0] rfl)
def zX0_guessOn_4 : Nat → Int32 → Int32 → Int32 → zz_T → Option Int32
  | 0, _, _, _, _ => none
  | n + 1, v1, v2, v3, st =>
    if 3 ≤ v3 then
      some v2
    else
      if v2 = (-1) then
        zX0_guessOn_40 (fun v1' v2' v3' st' => zX0_guessOn_4 n v1' v2' v3' st') v1 v2 v3 true st
      else
        if (zz_g 21 v3 1 st) ≤ (zz_g 21 v2 1 st) then
          zX0_guessOn_40 (fun v1' v2' v3' st' => zX0_guessOn_4 n v1' v2' v3' st') v1 v2 v3 false st
        else
          zX0_guessOn_40 (fun v1' v2' v3' st' => zX0_guessOn_4 n v1' v2' v3' st') v1 v2 v3 true st
set_option maxHeartbeats 4000000 in
set_option maxRecDepth 100000 in
theorem zt_X0_guessOn_4 {l : Launch} {A : Nat → Prop} {D : va_G} {cI : ClassId} {q : Nat → Nat} {p : Program} {e : Env} {s : State} {m : MethodId} {args : Array Value} {below : List Frame} {meth : Method} {c : Code} (C : zz_C A D cI q p s m args meth c cX0_guessOn 5 wsX0_guessOn yX0_guessOn.cls) (hr : meth.sig.returnType = some .int) : ∀ (n : Nat) (v1 : Int32) (v2 : Int32) (v3 : Int32) (st : zz_T) (H : Heap) (locs : List Loc) (ls : Array Slot) (r : Int32), zX0_guessOn_4 n v1 v2 v3 st = some r → va_P D vwCl (zz_c q cI st) H → va_S A s.heap H locs → lv_has ls 5 [(0, .ref (q 8)), (1, .int v1), (2, .int v2), (3, .int v3)] → W p l e zr_X0_guessOn s m args below meth c H locs 0 0 (zz_Qi A D cI q r st below args s) (F0 m 4 ls []) := by
  obtain ⟨hx, hb, hml, hown, hts⟩ := id C.1
  intro n
  induction n with
  | zero => intro v1 v2 v3 st H locs ls r hf; cases hf
  | succ n ih =>
    intro v1 v2 v3 st H locs ls r hf hP hS hl
    rw [zX0_guessOn_4] at hf
    refine lv_iload_n hx hb dX0_guessOn_4 rfl (lv_at hl 3 rfl) ?_
    refine lv_iconst (v := 3) hx hb dX0_guessOn_5 (by decide) ?_
    refine lv_icmp_ge (tgt := 64) hx hb dX0_guessOn_6 (by decide) (fun h => ?_) (fun h => ?_)
    · rw [if_pos h] at hf
      refine lv_iload_n hx hb dX0_guessOn_64 rfl (lv_at hl 2 rfl) ?_
      rw [← (Option.some.inj hf)]
      exact zz_reti C hr hP hS dX0_guessOn_65
    · rw [if_neg h] at hf
      refine lv_iload_n hx hb dX0_guessOn_9 rfl (lv_at hl 2 rfl) ?_
      refine lv_iconst (v := (-1)) hx hb dX0_guessOn_10 (by decide) ?_
      refine lv_icmp_eq (tgt := 35) hx hb dX0_guessOn_11 (by decide) (fun h => ?_) (fun h => ?_)
      · rw [if_pos h] at hf
        refine lv_iconst (v := 1) hx hb dX0_guessOn_35 (by decide) ?_
        refine lv_goto (tgt := 40) hx hb dX0_guessOn_36 (by decide) ?_
        exact zt_X0_guessOn_40 C hr _ ih _ _ _ _ _ _ _ _ _ hf hP hS (lv_sub hl [0, 1, 2, 3] rfl)
      · rw [if_neg h] at hf
        refine lv_aload_n hx hb dX0_guessOn_14 rfl (lv_at hl 0 rfl) ?_
        refine zz_getf C zi_X0_guessOn_X0 hP 8 rfl rfl 1 (nm := "plans") (ds := "LThirteenthDay$Table;") (fin := true) rfl (by decide) zk_X0_guessOn_20 rfl dX0_guessOn_15 ?_
        refine lv_iload_n hx hb dX0_guessOn_18 rfl (lv_at hl 3 rfl) ?_
        refine lv_iconst (v := 1) hx hb dX0_guessOn_19 (by decide) ?_
        refine zz_callVi C (As := [.int v3, .int 1]) (rest := []) (zc_X5_get 21 (by decide) _ _ _) (cwV 2 hts gX0_guessOn_X5_get rfl rfl rfl zd_X5_get ⟨Nat.le_of_ble_eq_true rfl, Nat.le_of_ble_eq_true rfl⟩) hP hS (9 + 21) (zz_c_tab (by decide)) rfl rfl hl rfl (Nat.le_of_ble_eq_true rfl) dX0_guessOn_20 ⟨Nat.zero_le _, Nat.zero_le _⟩ (fun H locs hP hS => ?_)
        refine lv_aload_n hx hb dX0_guessOn_23 rfl (lv_at hl 0 rfl) ?_
        refine zz_getf C zi_X0_guessOn_X0 hP 8 rfl rfl 1 (nm := "plans") (ds := "LThirteenthDay$Table;") (fin := true) rfl (by decide) zk_X0_guessOn_20 rfl dX0_guessOn_24 ?_
        refine lv_iload_n hx hb dX0_guessOn_27 rfl (lv_at hl 2 rfl) ?_
        refine lv_iconst (v := 1) hx hb dX0_guessOn_28 (by decide) ?_
        refine zz_callVi C (As := [.int v2, .int 1]) (rest := [.int (zz_g 21 v3 1 st)]) (zc_X5_get 21 (by decide) _ _ _) (cwV 2 hts gX0_guessOn_X5_get rfl rfl rfl zd_X5_get ⟨Nat.le_of_ble_eq_true rfl, Nat.le_of_ble_eq_true rfl⟩) hP hS (9 + 21) (zz_c_tab (by decide)) rfl rfl hl rfl (Nat.le_of_ble_eq_true rfl) dX0_guessOn_29 ⟨Nat.zero_le _, Nat.zero_le _⟩ (fun H locs hP hS => ?_)
        refine lv_icmp_le (tgt := 39) hx hb dX0_guessOn_32 (by decide) (fun h => ?_) (fun h => ?_)
        · rw [if_pos h] at hf
          refine lv_iconst (v := 0) hx hb dX0_guessOn_39 (by decide) ?_
          exact zt_X0_guessOn_40 C hr _ ih _ _ _ _ _ _ _ _ _ hf hP hS (lv_sub hl [0, 1, 2, 3] rfl)
        · rw [if_neg h] at hf
          refine lv_iconst (v := 1) hx hb dX0_guessOn_35 (by decide) ?_
          refine lv_goto (tgt := 40) hx hb dX0_guessOn_36 (by decide) ?_
          exact zt_X0_guessOn_40 C hr _ ih _ _ _ _ _ _ _ _ _ hf hP hS (lv_sub hl [0, 1, 2, 3] rfl)
def zX0_guessOn (v1 : Int32) (st : zz_T) : Option Int32 :=
  zX0_guessOn_4 zz_N v1 (-1) 0 st
set_option maxHeartbeats 4000000 in
set_option maxRecDepth 100000 in
theorem zc_X0_guessOn {l : Launch} {A : Nat → Prop} {D : va_G} {cI : ClassId} {q : Nat → Nat} (v1 : Int32) (st : zz_T) (r : Int32) (hf : zX0_guessOn v1 st = some r) : zz_Mi l A D cI q yX0_guessOn wsX0_guessOn zr_X0_guessOn [.ref (q 8), .int v1] st r st := by
  refine zz_of (cc := cX0_guessOn) (nL := 5) (ret := some .int) (by decide) rfl (Nat.le_of_ble_eq_true rfl) ?_
  intro p e s m args below meth c ls C hr hP hS hl
  obtain ⟨hx, hb, hml, hown, hts⟩ := id C.1
  have hl : lv_has ls 5 [(0, .ref (q 8)), (1, .int v1)] := hl
  rw [zX0_guessOn] at hf
  skip
  refine lv_iconst (v := (-1)) hx hb dX0_guessOn_0 (by decide) ?_
  refine lv_istore_n (lv' := [(2, .int (-1)), (0, .ref (q 8)), (1, .int v1)]) hx hb dX0_guessOn_1 rfl hl (by decide) rfl (fun ls hl => ?_)
  refine lv_iconst (v := 0) hx hb dX0_guessOn_2 (by decide) ?_
  refine lv_istore_n (lv' := [(3, .int 0), (2, .int (-1)), (0, .ref (q 8)), (1, .int v1)]) hx hb dX0_guessOn_3 rfl hl (by decide) rfl (fun ls hl => ?_)
  exact zt_X0_guessOn_4 C hr zz_N _ _ _ _ _ _ _ _ hf hP hS (lv_sub hl [2, 3, 1, 0] rfl)
/-! X8_day TR -/
theorem zd_X8_day : yX8_day.cls = RX8 ∧ yX8_day.cls ≠ "java/lang/invoke/MethodHandle" ∧ yX8_day.cls ≠ "java/lang/invoke/VarHandle" ∧ (parseMethodDescriptor yX8_day.desc).map (fun d => d.parameters.length) = some 0 := by decide +kernel
abbrev zr_X8_day : Room := { frames := 0, cells := 0, slots := 0, locals := 0 }
theorem zk_X8_day_70 : Cond.fieldLink yX8_day.cls 70 RX8 "tick" "I" ∈ wsX8_day := by decide +kernel
theorem zi_X8_day_X8 : ∀ w ∈ u_ws RX8 TX8 11, w ∈ wsX8_day := by decide +kernel
def zX8_day (st : zz_T) : Int32 :=
  ((st.2 0) / 144)
set_option maxHeartbeats 4000000 in
set_option maxRecDepth 100000 in
theorem zc_X8_day {l : Launch} {A : Nat → Prop} {D : va_G} {cI : ClassId} {q : Nat → Nat} (st : zz_T) : zz_Mi l A D cI q yX8_day wsX8_day zr_X8_day [.ref (q 0)] st (zX8_day st) st := by
  refine zz_of (cc := cX8_day) (nL := 1) (ret := some .int) (by decide) rfl (Nat.le_of_ble_eq_true rfl) ?_
  intro p e s m args below meth c ls C hr hP hS hl
  obtain ⟨hx, hb, hml, hown, hts⟩ := id C.1
  have hl : lv_has ls 1 [(0, .ref (q 0))] := hl
  obtain ⟨r, hf⟩ : ∃ r, zX8_day st = r := ⟨_, rfl⟩
  rw [hf]
  rw [zX8_day] at hf
  skip
  refine lv_aload_n hx hb dX8_day_0 rfl (lv_at hl 0 rfl) ?_
  refine zz_getf C zi_X8_day_X8 hP 0 rfl rfl 9 (nm := "tick") (ds := "I") (fin := false) rfl (by decide) zk_X8_day_70 rfl dX8_day_1 ?_
  refine lv_sipush (v := 144) hx hb dX8_day_4 (by decide) ?_
  refine lv_idiv hx hb dX8_day_7 (by decide) ?_
  rw [← hf]
  exact zz_reti C hr hP hS dX8_day_8
/-! X1_countLines TR -/
theorem zd_X1_countLines : yX1_countLines.cls = RX1 ∧ yX1_countLines.cls ≠ "java/lang/invoke/MethodHandle" ∧ yX1_countLines.cls ≠ "java/lang/invoke/VarHandle" ∧ (parseMethodDescriptor yX1_countLines.desc).map (fun d => d.parameters.length) = some 0 := by decide +kernel
abbrev zr_X1_countLines : Room := { frames := 0, cells := 0, slots := 0, locals := 0 }
theorem zk_X1_countLines_33 : Cond.fieldLink yX1_countLines.cls 33 RX1 "lineCount" "I" ∈ wsX1_countLines := by decide +kernel
theorem zi_X1_countLines_X1 : ∀ w ∈ u_ws RX1 TX1 6, w ∈ wsX1_countLines := by decide +kernel
def zX1_countLines (st : zz_T) : Int32 :=
  (st.2 3)
set_option maxHeartbeats 4000000 in
set_option maxRecDepth 100000 in
theorem zc_X1_countLines {l : Launch} {A : Nat → Prop} {D : va_G} {cI : ClassId} {q : Nat → Nat} (st : zz_T) : zz_Mi l A D cI q yX1_countLines wsX1_countLines zr_X1_countLines [.ref (q 1)] st (zX1_countLines st) st := by
  refine zz_of (cc := cX1_countLines) (nL := 1) (ret := some .int) (by decide) rfl (Nat.le_of_ble_eq_true rfl) ?_
  intro p e s m args below meth c ls C hr hP hS hl
  obtain ⟨hx, hb, hml, hown, hts⟩ := id C.1
  have hl : lv_has ls 1 [(0, .ref (q 1))] := hl
  obtain ⟨r, hf⟩ : ∃ r, zX1_countLines st = r := ⟨_, rfl⟩
  rw [hf]
  rw [zX1_countLines] at hf
  skip
  refine lv_aload_n hx hb dX1_countLines_0 rfl (lv_at hl 0 rfl) ?_
  refine zz_getf C zi_X1_countLines_X1 hP 1 rfl rfl 5 (nm := "lineCount") (ds := "I") (fin := false) rfl (by decide) zk_X1_countLines_33 rfl dX1_countLines_1 ?_
  rw [← hf]
  exact zz_reti C hr hP hS dX1_countLines_4
/-! X1_countStations TR -/
theorem zd_X1_countStations : yX1_countStations.cls = RX1 ∧ yX1_countStations.cls ≠ "java/lang/invoke/MethodHandle" ∧ yX1_countStations.cls ≠ "java/lang/invoke/VarHandle" ∧ (parseMethodDescriptor yX1_countStations.desc).map (fun d => d.parameters.length) = some 0 := by decide +kernel
abbrev zr_X1_countStations : Room := { frames := 0, cells := 0, slots := 0, locals := 0 }
theorem zk_X1_countStations_29 : Cond.fieldLink yX1_countStations.cls 29 RX1 "stationCount" "I" ∈ wsX1_countStations := by decide +kernel
theorem zi_X1_countStations_X1 : ∀ w ∈ u_ws RX1 TX1 6, w ∈ wsX1_countStations := by decide +kernel
def zX1_countStations (st : zz_T) : Int32 :=
  (st.2 2)
set_option maxHeartbeats 4000000 in
set_option maxRecDepth 100000 in
theorem zc_X1_countStations {l : Launch} {A : Nat → Prop} {D : va_G} {cI : ClassId} {q : Nat → Nat} (st : zz_T) : zz_Mi l A D cI q yX1_countStations wsX1_countStations zr_X1_countStations [.ref (q 1)] st (zX1_countStations st) st := by
  refine zz_of (cc := cX1_countStations) (nL := 1) (ret := some .int) (by decide) rfl (Nat.le_of_ble_eq_true rfl) ?_
  intro p e s m args below meth c ls C hr hP hS hl
  obtain ⟨hx, hb, hml, hown, hts⟩ := id C.1
  have hl : lv_has ls 1 [(0, .ref (q 1))] := hl
  obtain ⟨r, hf⟩ : ∃ r, zX1_countStations st = r := ⟨_, rfl⟩
  rw [hf]
  rw [zX1_countStations] at hf
  skip
  refine lv_aload_n hx hb dX1_countStations_0 rfl (lv_at hl 0 rfl) ?_
  refine zz_getf C zi_X1_countStations_X1 hP 1 rfl rfl 4 (nm := "stationCount") (ds := "I") (fin := false) rfl (by decide) zk_X1_countStations_29 rfl dX1_countStations_1 ?_
  rw [← hf]
  exact zz_reti C hr hP hS dX1_countStations_4
/-! X6_isOn TR -/
theorem zd_X6_isOn : yX6_isOn.cls = RX6 ∧ yX6_isOn.cls ≠ "java/lang/invoke/MethodHandle" ∧ yX6_isOn.cls ≠ "java/lang/invoke/VarHandle" ∧ (parseMethodDescriptor yX6_isOn.desc).map (fun d => d.parameters.length) = some 2 := by decide +kernel
abbrev zr_X6_isOn : Room := { frames := 1, cells := 0, slots := 0, locals := 24 }
theorem zk_X6_isOn_16 : Cond.fieldLink yX6_isOn.cls 16 RX6 "trains" "LThirteenthDay$Table;" ∈ wsX6_isOn := by decide +kernel
theorem zi_X6_isOn_X6 : ∀ w ∈ u_ws RX6 TX6 3, w ∈ wsX6_isOn := by decide +kernel
def zX6_isOn (v1 : Int32) (v2 : Int32) (st : zz_T) : Bool :=
  if (zz_g 16 v1 2 st) = 1 then
    if (zz_g 16 v1 3 st) = v2 then
      true
    else
      false
  else
    false
set_option maxHeartbeats 4000000 in
set_option maxRecDepth 100000 in
theorem zc_X6_isOn {l : Launch} {A : Nat → Prop} {D : va_G} {cI : ClassId} {q : Nat → Nat} (v1 : Int32) (v2 : Int32) (st : zz_T) : zz_Mi l A D cI q yX6_isOn wsX6_isOn zr_X6_isOn [.ref (q 5), .int v1, .int v2] st (zz_b (zX6_isOn v1 v2 st)) st := by
  refine zz_of (cc := cX6_isOn) (nL := 3) (ret := some .boolean) (by decide) rfl (Nat.le_of_ble_eq_true rfl) ?_
  intro p e s m args below meth c ls C hr hP hS hl
  obtain ⟨hx, hb, hml, hown, hts⟩ := id C.1
  have hl : lv_has ls 3 [(0, .ref (q 5)), (1, .int v1), (2, .int v2)] := hl
  obtain ⟨r, hf⟩ : ∃ r, zX6_isOn v1 v2 st = r := ⟨_, rfl⟩
  rw [hf]
  rw [zX6_isOn] at hf
  skip
  refine lv_aload_n hx hb dX6_isOn_0 rfl (lv_at hl 0 rfl) ?_
  refine zz_getf C zi_X6_isOn_X6 hP 5 rfl rfl 0 (nm := "trains") (ds := "LThirteenthDay$Table;") (fin := true) rfl (by decide) zk_X6_isOn_16 rfl dX6_isOn_1 ?_
  refine lv_iload_n hx hb dX6_isOn_4 rfl (lv_at hl 1 rfl) ?_
  refine lv_iconst (v := 2) hx hb dX6_isOn_5 (by decide) ?_
  refine zz_callVi C (As := [.int v1, .int 2]) (rest := []) (zc_X5_get 16 (by decide) _ _ _) (cwV 2 hts gX6_isOn_X5_get rfl rfl rfl zd_X5_get ⟨Nat.le_of_ble_eq_true rfl, Nat.le_of_ble_eq_true rfl⟩) hP hS (9 + 16) (zz_c_tab (by decide)) rfl rfl hl rfl (Nat.le_of_ble_eq_true rfl) dX6_isOn_6 ⟨Nat.zero_le _, Nat.zero_le _⟩ (fun H locs hP hS => ?_)
  refine lv_iconst (v := 1) hx hb dX6_isOn_9 (by decide) ?_
  refine lv_icmp_ne (tgt := 30) hx hb dX6_isOn_10 (by decide) (fun h => ?_) (fun h => ?_)
  · rw [if_neg h] at hf
    refine lv_iconst (v := 0) hx hb dX6_isOn_30 (by decide) ?_
    rw [← hf]
    exact zz_retz (v := false) C hr hP hS dX6_isOn_31
  · rw [if_pos h] at hf
    refine lv_aload_n hx hb dX6_isOn_13 rfl (lv_at hl 0 rfl) ?_
    refine zz_getf C zi_X6_isOn_X6 hP 5 rfl rfl 0 (nm := "trains") (ds := "LThirteenthDay$Table;") (fin := true) rfl (by decide) zk_X6_isOn_16 rfl dX6_isOn_14 ?_
    refine lv_iload_n hx hb dX6_isOn_17 rfl (lv_at hl 1 rfl) ?_
    refine lv_iconst (v := 3) hx hb dX6_isOn_18 (by decide) ?_
    refine zz_callVi C (As := [.int v1, .int 3]) (rest := []) (zc_X5_get 16 (by decide) _ _ _) (cwV 2 hts gX6_isOn_X5_get rfl rfl rfl zd_X5_get ⟨Nat.le_of_ble_eq_true rfl, Nat.le_of_ble_eq_true rfl⟩) hP hS (9 + 16) (zz_c_tab (by decide)) rfl rfl hl rfl (Nat.le_of_ble_eq_true rfl) dX6_isOn_19 ⟨Nat.zero_le _, Nat.zero_le _⟩ (fun H locs hP hS => ?_)
    refine lv_iload_n hx hb dX6_isOn_22 rfl (lv_at hl 2 rfl) ?_
    refine lv_icmp_ne (tgt := 30) hx hb dX6_isOn_23 (by decide) (fun h => ?_) (fun h => ?_)
    · rw [if_neg h] at hf
      refine lv_iconst (v := 0) hx hb dX6_isOn_30 (by decide) ?_
      rw [← hf]
      exact zz_retz (v := false) C hr hP hS dX6_isOn_31
    · rw [if_pos h] at hf
      refine lv_iconst (v := 1) hx hb dX6_isOn_26 (by decide) ?_
      refine lv_goto (tgt := 31) hx hb dX6_isOn_27 (by decide) ?_
      rw [← hf]
      exact zz_retz (v := true) C hr hP hS dX6_isOn_31
/-! X6_countOn PR -/
theorem zd_X6_countOn : yX6_countOn.cls = RX6 ∧ yX6_countOn.cls ≠ "java/lang/invoke/MethodHandle" ∧ yX6_countOn.cls ≠ "java/lang/invoke/VarHandle" ∧ (parseMethodDescriptor yX6_countOn.desc).map (fun d => d.parameters.length) = some 1 := by decide +kernel
abbrev zr_X6_countOn : Room := { frames := 2, cells := 0, slots := 0, locals := 46 }
theorem zk_X6_countOn_23 : Cond.fieldLink yX6_countOn.cls 23 RX6 "trainCount" "I" ∈ wsX6_countOn := by decide +kernel
theorem zi_X6_countOn_X6 : ∀ w ∈ u_ws RX6 TX6 3, w ∈ wsX6_countOn := by decide +kernel
def zX6_countOn_4 : Nat → Int32 → Int32 → Int32 → zz_T → Option Int32
  | 0, _, _, _, _ => none
  | n + 1, v1, v2, v3, st =>
    if (st.2 5) ≤ v3 then
      some v2
    else
      if (zX6_isOn v3 v1 st) = true then
        zz_v (v2 + 1) fun w2 =>
        zX6_countOn_4 n v1 w2 (v3 + 1) st
      else
        zz_v (v2 + 0) fun w1 =>
        zX6_countOn_4 n v1 w1 (v3 + 1) st
set_option maxHeartbeats 4000000 in
set_option maxRecDepth 100000 in
theorem zt_X6_countOn_4 {l : Launch} {A : Nat → Prop} {D : va_G} {cI : ClassId} {q : Nat → Nat} {p : Program} {e : Env} {s : State} {m : MethodId} {args : Array Value} {below : List Frame} {meth : Method} {c : Code} (C : zz_C A D cI q p s m args meth c cX6_countOn 4 wsX6_countOn yX6_countOn.cls) (hr : meth.sig.returnType = some .int) : ∀ (n : Nat) (v1 : Int32) (v2 : Int32) (v3 : Int32) (st : zz_T) (H : Heap) (locs : List Loc) (ls : Array Slot) (r : Int32), zX6_countOn_4 n v1 v2 v3 st = some r → va_P D vwCl (zz_c q cI st) H → va_S A s.heap H locs → lv_has ls 4 [(0, .ref (q 5)), (1, .int v1), (2, .int v2), (3, .int v3)] → W p l e zr_X6_countOn s m args below meth c H locs 0 0 (zz_Qi A D cI q r st below args s) (F0 m 4 ls []) := by
  obtain ⟨hx, hb, hml, hown, hts⟩ := id C.1
  intro n
  induction n with
  | zero => intro v1 v2 v3 st H locs ls r hf; cases hf
  | succ n ih =>
    intro v1 v2 v3 st H locs ls r hf hP hS hl
    rw [zX6_countOn_4] at hf
    refine lv_iload_n hx hb dX6_countOn_4 rfl (lv_at hl 3 rfl) ?_
    refine lv_aload_n hx hb dX6_countOn_5 rfl (lv_at hl 0 rfl) ?_
    refine zz_getf C zi_X6_countOn_X6 hP 5 rfl rfl 2 (nm := "trainCount") (ds := "I") (fin := false) rfl (by decide) zk_X6_countOn_23 rfl dX6_countOn_6 ?_
    refine lv_icmp_ge (tgt := 35) hx hb dX6_countOn_9 (by decide) (fun h => ?_) (fun h => ?_)
    · rw [if_pos h] at hf
      refine lv_iload_n hx hb dX6_countOn_35 rfl (lv_at hl 2 rfl) ?_
      rw [← (Option.some.inj hf)]
      exact zz_reti C hr hP hS dX6_countOn_36
    · rw [if_neg h] at hf
      refine lv_iload_n hx hb dX6_countOn_12 rfl (lv_at hl 2 rfl) ?_
      refine lv_aload_n hx hb dX6_countOn_13 rfl (lv_at hl 0 rfl) ?_
      refine lv_iload_n hx hb dX6_countOn_14 rfl (lv_at hl 3 rfl) ?_
      refine lv_iload_n hx hb dX6_countOn_15 rfl (lv_at hl 1 rfl) ?_
      refine zz_callVi C (As := [.int v3, .int v1]) (rest := [.int v2]) (zc_X6_isOn _ _ _) (cwV 2 hts gX6_countOn_X6_isOn rfl rfl rfl zd_X6_isOn ⟨Nat.le_of_ble_eq_true rfl, Nat.le_of_ble_eq_true rfl⟩) hP hS 5 rfl rfl rfl hl rfl (Nat.le_of_ble_eq_true rfl) dX6_countOn_16 ⟨Nat.zero_le _, Nat.zero_le _⟩ (fun H locs hP hS => ?_)
      refine lv_if_eq (tgt := 26) hx hb dX6_countOn_19 (by decide) (fun h => ?_) (fun h => ?_)
      · rw [zz_if0 (zz_b0 h)] at hf
        refine lv_iconst (v := 0) hx hb dX6_countOn_26 (by decide) ?_
        refine lv_iadd hx hb dX6_countOn_27 ?_
        refine lv_topi (fun w1 e1 => ?_)
        replace hf := zz_vi hf e1
        refine lv_istore_n (lv' := [(2, .int w1), (0, .ref (q 5)), (1, .int v1), (3, .int v3)]) hx hb dX6_countOn_28 rfl hl (by decide) rfl (fun ls hl => ?_)
        refine lv_iinc (v := (v3 + 1)) (lv' := [(3, .int (v3 + 1)), (2, .int w1), (0, .ref (q 5)), (1, .int v1)]) hx hb dX6_countOn_29 hl (k := 3) rfl (congrArg (fun z => v3 + z) (by decide)) (by decide) rfl (fun ls hl => ?_)
        refine lv_goto (tgt := 4) hx hb dX6_countOn_32 (by decide) ?_
        exact ih _ _ _ _ _ _ _ _ hf hP hS (lv_sub hl [2, 3, 1, 0] rfl)
      · rw [zz_if1 (zz_b1 h)] at hf
        refine lv_iconst (v := 1) hx hb dX6_countOn_22 (by decide) ?_
        refine lv_goto (tgt := 27) hx hb dX6_countOn_23 (by decide) ?_
        refine lv_iadd hx hb dX6_countOn_27 ?_
        refine lv_topi (fun w2 e2 => ?_)
        replace hf := zz_vi hf e2
        refine lv_istore_n (lv' := [(2, .int w2), (0, .ref (q 5)), (1, .int v1), (3, .int v3)]) hx hb dX6_countOn_28 rfl hl (by decide) rfl (fun ls hl => ?_)
        refine lv_iinc (v := (v3 + 1)) (lv' := [(3, .int (v3 + 1)), (2, .int w2), (0, .ref (q 5)), (1, .int v1)]) hx hb dX6_countOn_29 hl (k := 3) rfl (congrArg (fun z => v3 + z) (by decide)) (by decide) rfl (fun ls hl => ?_)
        refine lv_goto (tgt := 4) hx hb dX6_countOn_32 (by decide) ?_
        exact ih _ _ _ _ _ _ _ _ hf hP hS (lv_sub hl [2, 3, 1, 0] rfl)
def zX6_countOn (v1 : Int32) (st : zz_T) : Option Int32 :=
  zX6_countOn_4 zz_N v1 0 0 st
set_option maxHeartbeats 4000000 in
set_option maxRecDepth 100000 in
theorem zc_X6_countOn {l : Launch} {A : Nat → Prop} {D : va_G} {cI : ClassId} {q : Nat → Nat} (v1 : Int32) (st : zz_T) (r : Int32) (hf : zX6_countOn v1 st = some r) : zz_Mi l A D cI q yX6_countOn wsX6_countOn zr_X6_countOn [.ref (q 5), .int v1] st r st := by
  refine zz_of (cc := cX6_countOn) (nL := 4) (ret := some .int) (by decide) rfl (Nat.le_of_ble_eq_true rfl) ?_
  intro p e s m args below meth c ls C hr hP hS hl
  obtain ⟨hx, hb, hml, hown, hts⟩ := id C.1
  have hl : lv_has ls 4 [(0, .ref (q 5)), (1, .int v1)] := hl
  rw [zX6_countOn] at hf
  skip
  refine lv_iconst (v := 0) hx hb dX6_countOn_0 (by decide) ?_
  refine lv_istore_n (lv' := [(2, .int 0), (0, .ref (q 5)), (1, .int v1)]) hx hb dX6_countOn_1 rfl hl (by decide) rfl (fun ls hl => ?_)
  refine lv_iconst (v := 0) hx hb dX6_countOn_2 (by decide) ?_
  refine lv_istore_n (lv' := [(3, .int 0), (2, .int 0), (0, .ref (q 5)), (1, .int v1)]) hx hb dX6_countOn_3 rfl hl (by decide) rfl (fun ls hl => ?_)
  exact zt_X6_countOn_4 C hr zz_N _ _ _ _ _ _ _ _ hf hP hS (lv_sub hl [2, 3, 1, 0] rfl)
/-! X8_lineFact PR -/
theorem zd_X8_lineFact : yX8_lineFact.cls = RX8 ∧ yX8_lineFact.cls ≠ "java/lang/invoke/MethodHandle" ∧ yX8_lineFact.cls ≠ "java/lang/invoke/VarHandle" ∧ (parseMethodDescriptor yX8_lineFact.desc).map (fun d => d.parameters.length) = some 2 := by decide +kernel
abbrev zr_X8_lineFact : Room := { frames := 3, cells := 0, slots := 0, locals := 69 }
theorem zk_X8_lineFact_10 : Cond.fieldLink yX8_lineFact.cls 10 RX8 "land" "LThirteenthDay$Land;" ∈ wsX8_lineFact := by decide +kernel
theorem zk_X8_lineFact_36 : Cond.fieldLink yX8_lineFact.cls 36 RX8 "trains" "LThirteenthDay$Trains;" ∈ wsX8_lineFact := by decide +kernel
theorem zi_X8_lineFact_X8 : ∀ w ∈ u_ws RX8 TX8 11, w ∈ wsX8_lineFact := by decide +kernel
def zX8_lineFact (v1 : Int32) (v2 : Int32) (st : zz_T) : Option Int32 :=
  if v2 = 5 then
    (zX6_countOn v1 st).bind fun x1 =>
    some x1
  else
    some (zX1_getLine v1 v2 st)
set_option maxHeartbeats 4000000 in
set_option maxRecDepth 100000 in
theorem zc_X8_lineFact {l : Launch} {A : Nat → Prop} {D : va_G} {cI : ClassId} {q : Nat → Nat} (v1 : Int32) (v2 : Int32) (st : zz_T) (r : Int32) (hf : zX8_lineFact v1 v2 st = some r) : zz_Mi l A D cI q yX8_lineFact wsX8_lineFact zr_X8_lineFact [.ref (q 0), .int v1, .int v2] st r st := by
  refine zz_of (cc := cX8_lineFact) (nL := 3) (ret := some .int) (by decide) rfl (Nat.le_of_ble_eq_true rfl) ?_
  intro p e s m args below meth c ls C hr hP hS hl
  obtain ⟨hx, hb, hml, hown, hts⟩ := id C.1
  have hl : lv_has ls 3 [(0, .ref (q 0)), (1, .int v1), (2, .int v2)] := hl
  rw [zX8_lineFact] at hf
  skip
  refine lv_iload_n hx hb dX8_lineFact_0 rfl (lv_at hl 2 rfl) ?_
  refine lv_iconst (v := 5) hx hb dX8_lineFact_1 (by decide) ?_
  refine lv_icmp_ne (tgt := 16) hx hb dX8_lineFact_2 (by decide) (fun h => ?_) (fun h => ?_)
  · rw [if_neg h] at hf
    refine lv_aload_n hx hb dX8_lineFact_16 rfl (lv_at hl 0 rfl) ?_
    refine zz_getf C zi_X8_lineFact_X8 hP 0 rfl rfl 0 (nm := "land") (ds := "LThirteenthDay$Land;") (fin := true) rfl (by decide) zk_X8_lineFact_10 rfl dX8_lineFact_17 ?_
    refine lv_iload_n hx hb dX8_lineFact_20 rfl (lv_at hl 1 rfl) ?_
    refine lv_iload_n hx hb dX8_lineFact_21 rfl (lv_at hl 2 rfl) ?_
    refine zz_callVi C (As := [.int v1, .int v2]) (rest := []) (zc_X1_getLine _ _ _) (cwV 2 hts gX8_lineFact_X1_getLine rfl rfl rfl zd_X1_getLine ⟨Nat.le_of_ble_eq_true rfl, Nat.le_of_ble_eq_true rfl⟩) hP hS 1 rfl rfl rfl hl rfl (Nat.le_of_ble_eq_true rfl) dX8_lineFact_22 ⟨Nat.zero_le _, Nat.zero_le _⟩ (fun H locs hP hS => ?_)
    rw [← (Option.some.inj hf)]
    exact zz_reti C hr hP hS dX8_lineFact_25
  · rw [if_pos h] at hf
    refine lv_aload_n hx hb dX8_lineFact_5 rfl (lv_at hl 0 rfl) ?_
    refine zz_getf C zi_X8_lineFact_X8 hP 0 rfl rfl 4 (nm := "trains") (ds := "LThirteenthDay$Trains;") (fin := true) rfl (by decide) zk_X8_lineFact_36 rfl dX8_lineFact_6 ?_
    refine lv_iload_n hx hb dX8_lineFact_9 rfl (lv_at hl 1 rfl) ?_
    obtain ⟨x1, e2, hf⟩ := zz_bo hf
    refine zz_callVi C (As := [.int v1]) (rest := []) (zc_X6_countOn _ _ _ e2) (cwV 1 hts gX8_lineFact_X6_countOn rfl rfl rfl zd_X6_countOn ⟨Nat.le_of_ble_eq_true rfl, Nat.le_of_ble_eq_true rfl⟩) hP hS 5 rfl rfl rfl hl rfl (Nat.le_of_ble_eq_true rfl) dX8_lineFact_10 ⟨Nat.zero_le _, Nat.zero_le _⟩ (fun H locs hP hS => ?_)
    refine lv_goto (tgt := 25) hx hb dX8_lineFact_13 (by decide) ?_
    rw [← (Option.some.inj hf)]
    exact zz_reti C hr hP hS dX8_lineFact_25
/-! X6_isAt TR -/
theorem zd_X6_isAt : yX6_isAt.cls = RX6 ∧ yX6_isAt.cls ≠ "java/lang/invoke/MethodHandle" ∧ yX6_isAt.cls ≠ "java/lang/invoke/VarHandle" ∧ (parseMethodDescriptor yX6_isAt.desc).map (fun d => d.parameters.length) = some 2 := by decide +kernel
abbrev zr_X6_isAt : Room := { frames := 1, cells := 0, slots := 0, locals := 24 }
theorem zk_X6_isAt_16 : Cond.fieldLink yX6_isAt.cls 16 RX6 "trains" "LThirteenthDay$Table;" ∈ wsX6_isAt := by decide +kernel
theorem zi_X6_isAt_X6 : ∀ w ∈ u_ws RX6 TX6 3, w ∈ wsX6_isAt := by decide +kernel
def zX6_isAt (v1 : Int32) (v2 : Int32) (st : zz_T) : Bool :=
  zz_v (zz_g 16 v1 2 st) fun w1 =>
  if w1 = 0 then
    if (zz_g 16 v1 3 st) = v2 then
      true
    else
      false
  else
    if w1 = 2 then
      if (zz_g 16 v1 3 st) = v2 then
        true
      else
        false
    else
      false
set_option maxHeartbeats 4000000 in
set_option maxRecDepth 100000 in
theorem zc_X6_isAt {l : Launch} {A : Nat → Prop} {D : va_G} {cI : ClassId} {q : Nat → Nat} (v1 : Int32) (v2 : Int32) (st : zz_T) : zz_Mi l A D cI q yX6_isAt wsX6_isAt zr_X6_isAt [.ref (q 5), .int v1, .int v2] st (zz_b (zX6_isAt v1 v2 st)) st := by
  refine zz_of (cc := cX6_isAt) (nL := 4) (ret := some .boolean) (by decide) rfl (Nat.le_of_ble_eq_true rfl) ?_
  intro p e s m args below meth c ls C hr hP hS hl
  obtain ⟨hx, hb, hml, hown, hts⟩ := id C.1
  have hl : lv_has ls 4 [(0, .ref (q 5)), (1, .int v1), (2, .int v2)] := hl
  obtain ⟨r, hf⟩ : ∃ r, zX6_isAt v1 v2 st = r := ⟨_, rfl⟩
  rw [hf]
  rw [zX6_isAt] at hf
  skip
  refine lv_aload_n hx hb dX6_isAt_0 rfl (lv_at hl 0 rfl) ?_
  refine zz_getf C zi_X6_isAt_X6 hP 5 rfl rfl 0 (nm := "trains") (ds := "LThirteenthDay$Table;") (fin := true) rfl (by decide) zk_X6_isAt_16 rfl dX6_isAt_1 ?_
  refine lv_iload_n hx hb dX6_isAt_4 rfl (lv_at hl 1 rfl) ?_
  refine lv_iconst (v := 2) hx hb dX6_isAt_5 (by decide) ?_
  refine zz_callVi C (As := [.int v1, .int 2]) (rest := []) (zc_X5_get 16 (by decide) _ _ _) (cwV 2 hts gX6_isAt_X5_get rfl rfl rfl zd_X5_get ⟨Nat.le_of_ble_eq_true rfl, Nat.le_of_ble_eq_true rfl⟩) hP hS (9 + 16) (zz_c_tab (by decide)) rfl rfl hl rfl (Nat.le_of_ble_eq_true rfl) dX6_isAt_6 ⟨Nat.zero_le _, Nat.zero_le _⟩ (fun H locs hP hS => ?_)
  refine lv_topi (fun w1 e1 => ?_)
  replace hf := zz_vi hf e1
  refine lv_istore_n (lv' := [(3, .int w1), (0, .ref (q 5)), (1, .int v1), (2, .int v2)]) hx hb dX6_isAt_9 rfl hl (by decide) rfl (fun ls hl => ?_)
  refine lv_iload_n hx hb dX6_isAt_10 rfl (lv_at hl 0 rfl) ?_
  refine lv_if_eq (tgt := 19) hx hb dX6_isAt_11 (by decide) (fun h => ?_) (fun h => ?_)
  · rw [if_pos h] at hf
    refine lv_aload_n hx hb dX6_isAt_19 rfl (lv_at hl 1 rfl) ?_
    refine zz_getf C zi_X6_isAt_X6 hP 5 rfl rfl 0 (nm := "trains") (ds := "LThirteenthDay$Table;") (fin := true) rfl (by decide) zk_X6_isAt_16 rfl dX6_isAt_20 ?_
    refine lv_iload_n hx hb dX6_isAt_23 rfl (lv_at hl 2 rfl) ?_
    refine lv_iconst (v := 3) hx hb dX6_isAt_24 (by decide) ?_
    refine zz_callVi C (As := [.int v1, .int 3]) (rest := []) (zc_X5_get 16 (by decide) _ _ _) (cwV 2 hts gX6_isAt_X5_get rfl rfl rfl zd_X5_get ⟨Nat.le_of_ble_eq_true rfl, Nat.le_of_ble_eq_true rfl⟩) hP hS (9 + 16) (zz_c_tab (by decide)) rfl rfl hl rfl (Nat.le_of_ble_eq_true rfl) dX6_isAt_25 ⟨Nat.zero_le _, Nat.zero_le _⟩ (fun H locs hP hS => ?_)
    refine lv_iload_n hx hb dX6_isAt_28 rfl (lv_at hl 3 rfl) ?_
    refine lv_icmp_ne (tgt := 36) hx hb dX6_isAt_29 (by decide) (fun h => ?_) (fun h => ?_)
    · rw [if_neg h] at hf
      refine lv_iconst (v := 0) hx hb dX6_isAt_36 (by decide) ?_
      rw [← hf]
      exact zz_retz (v := false) C hr hP hS dX6_isAt_37
    · rw [if_pos h] at hf
      refine lv_iconst (v := 1) hx hb dX6_isAt_32 (by decide) ?_
      refine lv_goto (tgt := 37) hx hb dX6_isAt_33 (by decide) ?_
      rw [← hf]
      exact zz_retz (v := true) C hr hP hS dX6_isAt_37
  · rw [if_neg h] at hf
    refine lv_iload_n hx hb dX6_isAt_14 rfl (lv_at hl 0 rfl) ?_
    refine lv_iconst (v := 2) hx hb dX6_isAt_15 (by decide) ?_
    refine lv_icmp_ne (tgt := 36) hx hb dX6_isAt_16 (by decide) (fun h => ?_) (fun h => ?_)
    · rw [if_neg h] at hf
      refine lv_iconst (v := 0) hx hb dX6_isAt_36 (by decide) ?_
      rw [← hf]
      exact zz_retz (v := false) C hr hP hS dX6_isAt_37
    · rw [if_pos h] at hf
      refine lv_aload_n hx hb dX6_isAt_19 rfl (lv_at hl 1 rfl) ?_
      refine zz_getf C zi_X6_isAt_X6 hP 5 rfl rfl 0 (nm := "trains") (ds := "LThirteenthDay$Table;") (fin := true) rfl (by decide) zk_X6_isAt_16 rfl dX6_isAt_20 ?_
      refine lv_iload_n hx hb dX6_isAt_23 rfl (lv_at hl 2 rfl) ?_
      refine lv_iconst (v := 3) hx hb dX6_isAt_24 (by decide) ?_
      refine zz_callVi C (As := [.int v1, .int 3]) (rest := []) (zc_X5_get 16 (by decide) _ _ _) (cwV 2 hts gX6_isAt_X5_get rfl rfl rfl zd_X5_get ⟨Nat.le_of_ble_eq_true rfl, Nat.le_of_ble_eq_true rfl⟩) hP hS (9 + 16) (zz_c_tab (by decide)) rfl rfl hl rfl (Nat.le_of_ble_eq_true rfl) dX6_isAt_25 ⟨Nat.zero_le _, Nat.zero_le _⟩ (fun H locs hP hS => ?_)
      refine lv_iload_n hx hb dX6_isAt_28 rfl (lv_at hl 3 rfl) ?_
      refine lv_icmp_ne (tgt := 36) hx hb dX6_isAt_29 (by decide) (fun h => ?_) (fun h => ?_)
      · rw [if_neg h] at hf
        refine lv_iconst (v := 0) hx hb dX6_isAt_36 (by decide) ?_
        rw [← hf]
        exact zz_retz (v := false) C hr hP hS dX6_isAt_37
      · rw [if_pos h] at hf
        refine lv_iconst (v := 1) hx hb dX6_isAt_32 (by decide) ?_
        refine lv_goto (tgt := 37) hx hb dX6_isAt_33 (by decide) ?_
        rw [← hf]
        exact zz_retz (v := true) C hr hP hS dX6_isAt_37
/-! X6_countAt PR -/
theorem zd_X6_countAt : yX6_countAt.cls = RX6 ∧ yX6_countAt.cls ≠ "java/lang/invoke/MethodHandle" ∧ yX6_countAt.cls ≠ "java/lang/invoke/VarHandle" ∧ (parseMethodDescriptor yX6_countAt.desc).map (fun d => d.parameters.length) = some 1 := by decide +kernel
abbrev zr_X6_countAt : Room := { frames := 2, cells := 0, slots := 0, locals := 47 }
theorem zk_X6_countAt_23 : Cond.fieldLink yX6_countAt.cls 23 RX6 "trainCount" "I" ∈ wsX6_countAt := by decide +kernel
theorem zi_X6_countAt_X6 : ∀ w ∈ u_ws RX6 TX6 3, w ∈ wsX6_countAt := by decide +kernel
def zX6_countAt_4 : Nat → Int32 → Int32 → Int32 → zz_T → Option Int32
  | 0, _, _, _, _ => none
  | n + 1, v1, v2, v3, st =>
    if (st.2 5) ≤ v3 then
      some v2
    else
      if (zX6_isAt v3 v1 st) = true then
        zz_v (v2 + 1) fun w2 =>
        zX6_countAt_4 n v1 w2 (v3 + 1) st
      else
        zz_v (v2 + 0) fun w1 =>
        zX6_countAt_4 n v1 w1 (v3 + 1) st
set_option maxHeartbeats 4000000 in
set_option maxRecDepth 100000 in
theorem zt_X6_countAt_4 {l : Launch} {A : Nat → Prop} {D : va_G} {cI : ClassId} {q : Nat → Nat} {p : Program} {e : Env} {s : State} {m : MethodId} {args : Array Value} {below : List Frame} {meth : Method} {c : Code} (C : zz_C A D cI q p s m args meth c cX6_countAt 4 wsX6_countAt yX6_countAt.cls) (hr : meth.sig.returnType = some .int) : ∀ (n : Nat) (v1 : Int32) (v2 : Int32) (v3 : Int32) (st : zz_T) (H : Heap) (locs : List Loc) (ls : Array Slot) (r : Int32), zX6_countAt_4 n v1 v2 v3 st = some r → va_P D vwCl (zz_c q cI st) H → va_S A s.heap H locs → lv_has ls 4 [(0, .ref (q 5)), (1, .int v1), (2, .int v2), (3, .int v3)] → W p l e zr_X6_countAt s m args below meth c H locs 0 0 (zz_Qi A D cI q r st below args s) (F0 m 4 ls []) := by
  obtain ⟨hx, hb, hml, hown, hts⟩ := id C.1
  intro n
  induction n with
  | zero => intro v1 v2 v3 st H locs ls r hf; cases hf
  | succ n ih =>
    intro v1 v2 v3 st H locs ls r hf hP hS hl
    rw [zX6_countAt_4] at hf
    refine lv_iload_n hx hb dX6_countAt_4 rfl (lv_at hl 3 rfl) ?_
    refine lv_aload_n hx hb dX6_countAt_5 rfl (lv_at hl 0 rfl) ?_
    refine zz_getf C zi_X6_countAt_X6 hP 5 rfl rfl 2 (nm := "trainCount") (ds := "I") (fin := false) rfl (by decide) zk_X6_countAt_23 rfl dX6_countAt_6 ?_
    refine lv_icmp_ge (tgt := 35) hx hb dX6_countAt_9 (by decide) (fun h => ?_) (fun h => ?_)
    · rw [if_pos h] at hf
      refine lv_iload_n hx hb dX6_countAt_35 rfl (lv_at hl 2 rfl) ?_
      rw [← (Option.some.inj hf)]
      exact zz_reti C hr hP hS dX6_countAt_36
    · rw [if_neg h] at hf
      refine lv_iload_n hx hb dX6_countAt_12 rfl (lv_at hl 2 rfl) ?_
      refine lv_aload_n hx hb dX6_countAt_13 rfl (lv_at hl 0 rfl) ?_
      refine lv_iload_n hx hb dX6_countAt_14 rfl (lv_at hl 3 rfl) ?_
      refine lv_iload_n hx hb dX6_countAt_15 rfl (lv_at hl 1 rfl) ?_
      refine zz_callVi C (As := [.int v3, .int v1]) (rest := [.int v2]) (zc_X6_isAt _ _ _) (cwV 2 hts gX6_countAt_X6_isAt rfl rfl rfl zd_X6_isAt ⟨Nat.le_of_ble_eq_true rfl, Nat.le_of_ble_eq_true rfl⟩) hP hS 5 rfl rfl rfl hl rfl (Nat.le_of_ble_eq_true rfl) dX6_countAt_16 ⟨Nat.zero_le _, Nat.zero_le _⟩ (fun H locs hP hS => ?_)
      refine lv_if_eq (tgt := 26) hx hb dX6_countAt_19 (by decide) (fun h => ?_) (fun h => ?_)
      · rw [zz_if0 (zz_b0 h)] at hf
        refine lv_iconst (v := 0) hx hb dX6_countAt_26 (by decide) ?_
        refine lv_iadd hx hb dX6_countAt_27 ?_
        refine lv_topi (fun w1 e1 => ?_)
        replace hf := zz_vi hf e1
        refine lv_istore_n (lv' := [(2, .int w1), (0, .ref (q 5)), (1, .int v1), (3, .int v3)]) hx hb dX6_countAt_28 rfl hl (by decide) rfl (fun ls hl => ?_)
        refine lv_iinc (v := (v3 + 1)) (lv' := [(3, .int (v3 + 1)), (2, .int w1), (0, .ref (q 5)), (1, .int v1)]) hx hb dX6_countAt_29 hl (k := 3) rfl (congrArg (fun z => v3 + z) (by decide)) (by decide) rfl (fun ls hl => ?_)
        refine lv_goto (tgt := 4) hx hb dX6_countAt_32 (by decide) ?_
        exact ih _ _ _ _ _ _ _ _ hf hP hS (lv_sub hl [2, 3, 1, 0] rfl)
      · rw [zz_if1 (zz_b1 h)] at hf
        refine lv_iconst (v := 1) hx hb dX6_countAt_22 (by decide) ?_
        refine lv_goto (tgt := 27) hx hb dX6_countAt_23 (by decide) ?_
        refine lv_iadd hx hb dX6_countAt_27 ?_
        refine lv_topi (fun w2 e2 => ?_)
        replace hf := zz_vi hf e2
        refine lv_istore_n (lv' := [(2, .int w2), (0, .ref (q 5)), (1, .int v1), (3, .int v3)]) hx hb dX6_countAt_28 rfl hl (by decide) rfl (fun ls hl => ?_)
        refine lv_iinc (v := (v3 + 1)) (lv' := [(3, .int (v3 + 1)), (2, .int w2), (0, .ref (q 5)), (1, .int v1)]) hx hb dX6_countAt_29 hl (k := 3) rfl (congrArg (fun z => v3 + z) (by decide)) (by decide) rfl (fun ls hl => ?_)
        refine lv_goto (tgt := 4) hx hb dX6_countAt_32 (by decide) ?_
        exact ih _ _ _ _ _ _ _ _ hf hP hS (lv_sub hl [2, 3, 1, 0] rfl)
def zX6_countAt (v1 : Int32) (st : zz_T) : Option Int32 :=
  zX6_countAt_4 zz_N v1 0 0 st
set_option maxHeartbeats 4000000 in
set_option maxRecDepth 100000 in
theorem zc_X6_countAt {l : Launch} {A : Nat → Prop} {D : va_G} {cI : ClassId} {q : Nat → Nat} (v1 : Int32) (st : zz_T) (r : Int32) (hf : zX6_countAt v1 st = some r) : zz_Mi l A D cI q yX6_countAt wsX6_countAt zr_X6_countAt [.ref (q 5), .int v1] st r st := by
  refine zz_of (cc := cX6_countAt) (nL := 4) (ret := some .int) (by decide) rfl (Nat.le_of_ble_eq_true rfl) ?_
  intro p e s m args below meth c ls C hr hP hS hl
  obtain ⟨hx, hb, hml, hown, hts⟩ := id C.1
  have hl : lv_has ls 4 [(0, .ref (q 5)), (1, .int v1)] := hl
  rw [zX6_countAt] at hf
  skip
  refine lv_iconst (v := 0) hx hb dX6_countAt_0 (by decide) ?_
  refine lv_istore_n (lv' := [(2, .int 0), (0, .ref (q 5)), (1, .int v1)]) hx hb dX6_countAt_1 rfl hl (by decide) rfl (fun ls hl => ?_)
  refine lv_iconst (v := 0) hx hb dX6_countAt_2 (by decide) ?_
  refine lv_istore_n (lv' := [(3, .int 0), (2, .int 0), (0, .ref (q 5)), (1, .int v1)]) hx hb dX6_countAt_3 rfl hl (by decide) rfl (fun ls hl => ?_)
  exact zt_X6_countAt_4 C hr zz_N _ _ _ _ _ _ _ _ hf hP hS (lv_sub hl [2, 3, 1, 0] rfl)
/-! X6_countUnloadingAt PR -/
theorem zd_X6_countUnloadingAt : yX6_countUnloadingAt.cls = RX6 ∧ yX6_countUnloadingAt.cls ≠ "java/lang/invoke/MethodHandle" ∧ yX6_countUnloadingAt.cls ≠ "java/lang/invoke/VarHandle" ∧ (parseMethodDescriptor yX6_countUnloadingAt.desc).map (fun d => d.parameters.length) = some 1 := by decide +kernel
abbrev zr_X6_countUnloadingAt : Room := { frames := 2, cells := 0, slots := 0, locals := 47 }
theorem zk_X6_countUnloadingAt_23 : Cond.fieldLink yX6_countUnloadingAt.cls 23 RX6 "trainCount" "I" ∈ wsX6_countUnloadingAt := by decide +kernel
theorem zk_X6_countUnloadingAt_16 : Cond.fieldLink yX6_countUnloadingAt.cls 16 RX6 "trains" "LThirteenthDay$Table;" ∈ wsX6_countUnloadingAt := by decide +kernel
theorem zi_X6_countUnloadingAt_X6 : ∀ w ∈ u_ws RX6 TX6 3, w ∈ wsX6_countUnloadingAt := by decide +kernel
def zX6_countUnloadingAt_4 : Nat → Int32 → Int32 → Int32 → zz_T → Option Int32
  | 0, _, _, _, _ => none
  | n + 1, v1, v2, v3, st =>
    if (st.2 5) ≤ v3 then
      some v2
    else
      if (zX6_isAt v3 v1 st) = true then
        if (zz_g 16 v3 2 st) = 2 then
          zz_v (v2 + 1) fun w3 =>
          zX6_countUnloadingAt_4 n v1 w3 (v3 + 1) st
        else
          zz_v (v2 + 0) fun w2 =>
          zX6_countUnloadingAt_4 n v1 w2 (v3 + 1) st
      else
        zz_v (v2 + 0) fun w1 =>
        zX6_countUnloadingAt_4 n v1 w1 (v3 + 1) st
set_option maxHeartbeats 4000000 in
set_option maxRecDepth 100000 in
theorem zt_X6_countUnloadingAt_4 {l : Launch} {A : Nat → Prop} {D : va_G} {cI : ClassId} {q : Nat → Nat} {p : Program} {e : Env} {s : State} {m : MethodId} {args : Array Value} {below : List Frame} {meth : Method} {c : Code} (C : zz_C A D cI q p s m args meth c cX6_countUnloadingAt 4 wsX6_countUnloadingAt yX6_countUnloadingAt.cls) (hr : meth.sig.returnType = some .int) : ∀ (n : Nat) (v1 : Int32) (v2 : Int32) (v3 : Int32) (st : zz_T) (H : Heap) (locs : List Loc) (ls : Array Slot) (r : Int32), zX6_countUnloadingAt_4 n v1 v2 v3 st = some r → va_P D vwCl (zz_c q cI st) H → va_S A s.heap H locs → lv_has ls 4 [(0, .ref (q 5)), (1, .int v1), (2, .int v2), (3, .int v3)] → W p l e zr_X6_countUnloadingAt s m args below meth c H locs 0 0 (zz_Qi A D cI q r st below args s) (F0 m 4 ls []) := by
  obtain ⟨hx, hb, hml, hown, hts⟩ := id C.1
  intro n
  induction n with
  | zero => intro v1 v2 v3 st H locs ls r hf; cases hf
  | succ n ih =>
    intro v1 v2 v3 st H locs ls r hf hP hS hl
    rw [zX6_countUnloadingAt_4] at hf
    refine lv_iload_n hx hb dX6_countUnloadingAt_4 rfl (lv_at hl 3 rfl) ?_
    refine lv_aload_n hx hb dX6_countUnloadingAt_5 rfl (lv_at hl 0 rfl) ?_
    refine zz_getf C zi_X6_countUnloadingAt_X6 hP 5 rfl rfl 2 (nm := "trainCount") (ds := "I") (fin := false) rfl (by decide) zk_X6_countUnloadingAt_23 rfl dX6_countUnloadingAt_6 ?_
    refine lv_icmp_ge (tgt := 48) hx hb dX6_countUnloadingAt_9 (by decide) (fun h => ?_) (fun h => ?_)
    · rw [if_pos h] at hf
      refine lv_iload_n hx hb dX6_countUnloadingAt_48 rfl (lv_at hl 2 rfl) ?_
      rw [← (Option.some.inj hf)]
      exact zz_reti C hr hP hS dX6_countUnloadingAt_49
    · rw [if_neg h] at hf
      refine lv_iload_n hx hb dX6_countUnloadingAt_12 rfl (lv_at hl 2 rfl) ?_
      refine lv_aload_n hx hb dX6_countUnloadingAt_13 rfl (lv_at hl 0 rfl) ?_
      refine lv_iload_n hx hb dX6_countUnloadingAt_14 rfl (lv_at hl 3 rfl) ?_
      refine lv_iload_n hx hb dX6_countUnloadingAt_15 rfl (lv_at hl 1 rfl) ?_
      refine zz_callVi C (As := [.int v3, .int v1]) (rest := [.int v2]) (zc_X6_isAt _ _ _) (cwV 2 hts gX6_countUnloadingAt_X6_isAt rfl rfl rfl zd_X6_isAt ⟨Nat.le_of_ble_eq_true rfl, Nat.le_of_ble_eq_true rfl⟩) hP hS 5 rfl rfl rfl hl rfl (Nat.le_of_ble_eq_true rfl) dX6_countUnloadingAt_16 ⟨Nat.zero_le _, Nat.zero_le _⟩ (fun H locs hP hS => ?_)
      refine lv_if_eq (tgt := 39) hx hb dX6_countUnloadingAt_19 (by decide) (fun h => ?_) (fun h => ?_)
      · rw [zz_if0 (zz_b0 h)] at hf
        refine lv_iconst (v := 0) hx hb dX6_countUnloadingAt_39 (by decide) ?_
        refine lv_iadd hx hb dX6_countUnloadingAt_40 ?_
        refine lv_topi (fun w1 e1 => ?_)
        replace hf := zz_vi hf e1
        refine lv_istore_n (lv' := [(2, .int w1), (0, .ref (q 5)), (1, .int v1), (3, .int v3)]) hx hb dX6_countUnloadingAt_41 rfl hl (by decide) rfl (fun ls hl => ?_)
        refine lv_iinc (v := (v3 + 1)) (lv' := [(3, .int (v3 + 1)), (2, .int w1), (0, .ref (q 5)), (1, .int v1)]) hx hb dX6_countUnloadingAt_42 hl (k := 3) rfl (congrArg (fun z => v3 + z) (by decide)) (by decide) rfl (fun ls hl => ?_)
        refine lv_goto (tgt := 4) hx hb dX6_countUnloadingAt_45 (by decide) ?_
        exact ih _ _ _ _ _ _ _ _ hf hP hS (lv_sub hl [2, 3, 1, 0] rfl)
      · rw [zz_if1 (zz_b1 h)] at hf
        refine lv_aload_n hx hb dX6_countUnloadingAt_22 rfl (lv_at hl 0 rfl) ?_
        refine zz_getf C zi_X6_countUnloadingAt_X6 hP 5 rfl rfl 0 (nm := "trains") (ds := "LThirteenthDay$Table;") (fin := true) rfl (by decide) zk_X6_countUnloadingAt_16 rfl dX6_countUnloadingAt_23 ?_
        refine lv_iload_n hx hb dX6_countUnloadingAt_26 rfl (lv_at hl 3 rfl) ?_
        refine lv_iconst (v := 2) hx hb dX6_countUnloadingAt_27 (by decide) ?_
        refine zz_callVi C (As := [.int v3, .int 2]) (rest := [.int v2]) (zc_X5_get 16 (by decide) _ _ _) (cwV 2 hts gX6_countUnloadingAt_X5_get rfl rfl rfl zd_X5_get ⟨Nat.le_of_ble_eq_true rfl, Nat.le_of_ble_eq_true rfl⟩) hP hS (9 + 16) (zz_c_tab (by decide)) rfl rfl hl rfl (Nat.le_of_ble_eq_true rfl) dX6_countUnloadingAt_28 ⟨Nat.zero_le _, Nat.zero_le _⟩ (fun H locs hP hS => ?_)
        refine lv_iconst (v := 2) hx hb dX6_countUnloadingAt_31 (by decide) ?_
        refine lv_icmp_ne (tgt := 39) hx hb dX6_countUnloadingAt_32 (by decide) (fun h => ?_) (fun h => ?_)
        · rw [if_neg h] at hf
          refine lv_iconst (v := 0) hx hb dX6_countUnloadingAt_39 (by decide) ?_
          refine lv_iadd hx hb dX6_countUnloadingAt_40 ?_
          refine lv_topi (fun w2 e2 => ?_)
          replace hf := zz_vi hf e2
          refine lv_istore_n (lv' := [(2, .int w2), (0, .ref (q 5)), (1, .int v1), (3, .int v3)]) hx hb dX6_countUnloadingAt_41 rfl hl (by decide) rfl (fun ls hl => ?_)
          refine lv_iinc (v := (v3 + 1)) (lv' := [(3, .int (v3 + 1)), (2, .int w2), (0, .ref (q 5)), (1, .int v1)]) hx hb dX6_countUnloadingAt_42 hl (k := 3) rfl (congrArg (fun z => v3 + z) (by decide)) (by decide) rfl (fun ls hl => ?_)
          refine lv_goto (tgt := 4) hx hb dX6_countUnloadingAt_45 (by decide) ?_
          exact ih _ _ _ _ _ _ _ _ hf hP hS (lv_sub hl [2, 3, 1, 0] rfl)
        · rw [if_pos h] at hf
          refine lv_iconst (v := 1) hx hb dX6_countUnloadingAt_35 (by decide) ?_
          refine lv_goto (tgt := 40) hx hb dX6_countUnloadingAt_36 (by decide) ?_
          refine lv_iadd hx hb dX6_countUnloadingAt_40 ?_
          refine lv_topi (fun w3 e3 => ?_)
          replace hf := zz_vi hf e3
          refine lv_istore_n (lv' := [(2, .int w3), (0, .ref (q 5)), (1, .int v1), (3, .int v3)]) hx hb dX6_countUnloadingAt_41 rfl hl (by decide) rfl (fun ls hl => ?_)
          refine lv_iinc (v := (v3 + 1)) (lv' := [(3, .int (v3 + 1)), (2, .int w3), (0, .ref (q 5)), (1, .int v1)]) hx hb dX6_countUnloadingAt_42 hl (k := 3) rfl (congrArg (fun z => v3 + z) (by decide)) (by decide) rfl (fun ls hl => ?_)
          refine lv_goto (tgt := 4) hx hb dX6_countUnloadingAt_45 (by decide) ?_
          exact ih _ _ _ _ _ _ _ _ hf hP hS (lv_sub hl [2, 3, 1, 0] rfl)
def zX6_countUnloadingAt (v1 : Int32) (st : zz_T) : Option Int32 :=
  zX6_countUnloadingAt_4 zz_N v1 0 0 st
set_option maxHeartbeats 4000000 in
set_option maxRecDepth 100000 in
theorem zc_X6_countUnloadingAt {l : Launch} {A : Nat → Prop} {D : va_G} {cI : ClassId} {q : Nat → Nat} (v1 : Int32) (st : zz_T) (r : Int32) (hf : zX6_countUnloadingAt v1 st = some r) : zz_Mi l A D cI q yX6_countUnloadingAt wsX6_countUnloadingAt zr_X6_countUnloadingAt [.ref (q 5), .int v1] st r st := by
  refine zz_of (cc := cX6_countUnloadingAt) (nL := 4) (ret := some .int) (by decide) rfl (Nat.le_of_ble_eq_true rfl) ?_
  intro p e s m args below meth c ls C hr hP hS hl
  obtain ⟨hx, hb, hml, hown, hts⟩ := id C.1
  have hl : lv_has ls 4 [(0, .ref (q 5)), (1, .int v1)] := hl
  rw [zX6_countUnloadingAt] at hf
  skip
  refine lv_iconst (v := 0) hx hb dX6_countUnloadingAt_0 (by decide) ?_
  refine lv_istore_n (lv' := [(2, .int 0), (0, .ref (q 5)), (1, .int v1)]) hx hb dX6_countUnloadingAt_1 rfl hl (by decide) rfl (fun ls hl => ?_)
  refine lv_iconst (v := 0) hx hb dX6_countUnloadingAt_2 (by decide) ?_
  refine lv_istore_n (lv' := [(3, .int 0), (2, .int 0), (0, .ref (q 5)), (1, .int v1)]) hx hb dX6_countUnloadingAt_3 rfl hl (by decide) rfl (fun ls hl => ?_)
  exact zt_X6_countUnloadingAt_4 C hr zz_N _ _ _ _ _ _ _ _ hf hP hS (lv_sub hl [2, 3, 1, 0] rfl)
/-! X8_stationFact PR -/
theorem zd_X8_stationFact : yX8_stationFact.cls = RX8 ∧ yX8_stationFact.cls ≠ "java/lang/invoke/MethodHandle" ∧ yX8_stationFact.cls ≠ "java/lang/invoke/VarHandle" ∧ (parseMethodDescriptor yX8_stationFact.desc).map (fun d => d.parameters.length) = some 2 := by decide +kernel
abbrev zr_X8_stationFact : Room := { frames := 3, cells := 0, slots := 0, locals := 70 }
theorem zk_X8_stationFact_10 : Cond.fieldLink yX8_stationFact.cls 10 RX8 "land" "LThirteenthDay$Land;" ∈ wsX8_stationFact := by decide +kernel
theorem zk_X8_stationFact_36 : Cond.fieldLink yX8_stationFact.cls 36 RX8 "trains" "LThirteenthDay$Trains;" ∈ wsX8_stationFact := by decide +kernel
theorem zi_X8_stationFact_X8 : ∀ w ∈ u_ws RX8 TX8 11, w ∈ wsX8_stationFact := by decide +kernel
def zX8_stationFact (v1 : Int32) (v2 : Int32) (st : zz_T) : Option Int32 :=
  if v2 = 4 then
    (zX6_countAt v1 st).bind fun x3 =>
    some x3
  else
    if v2 = 5 then
      (zX6_countUnloadingAt v1 st).bind fun x1 =>
      some x1
    else
      some (zX1_getStation v1 v2 st)
set_option maxHeartbeats 4000000 in
set_option maxRecDepth 100000 in
theorem zc_X8_stationFact {l : Launch} {A : Nat → Prop} {D : va_G} {cI : ClassId} {q : Nat → Nat} (v1 : Int32) (v2 : Int32) (st : zz_T) (r : Int32) (hf : zX8_stationFact v1 v2 st = some r) : zz_Mi l A D cI q yX8_stationFact wsX8_stationFact zr_X8_stationFact [.ref (q 0), .int v1, .int v2] st r st := by
  refine zz_of (cc := cX8_stationFact) (nL := 3) (ret := some .int) (by decide) rfl (Nat.le_of_ble_eq_true rfl) ?_
  intro p e s m args below meth c ls C hr hP hS hl
  obtain ⟨hx, hb, hml, hown, hts⟩ := id C.1
  have hl : lv_has ls 3 [(0, .ref (q 0)), (1, .int v1), (2, .int v2)] := hl
  rw [zX8_stationFact] at hf
  skip
  refine lv_iload_n hx hb dX8_stationFact_0 rfl (lv_at hl 2 rfl) ?_
  refine lv_iconst (v := 4) hx hb dX8_stationFact_1 (by decide) ?_
  refine lv_icmp_ne (tgt := 14) hx hb dX8_stationFact_2 (by decide) (fun h => ?_) (fun h => ?_)
  · rw [if_neg h] at hf
    refine lv_iload_n hx hb dX8_stationFact_14 rfl (lv_at hl 2 rfl) ?_
    refine lv_iconst (v := 5) hx hb dX8_stationFact_15 (by decide) ?_
    refine lv_icmp_ne (tgt := 30) hx hb dX8_stationFact_16 (by decide) (fun h => ?_) (fun h => ?_)
    · rw [if_neg h] at hf
      refine lv_aload_n hx hb dX8_stationFact_30 rfl (lv_at hl 0 rfl) ?_
      refine zz_getf C zi_X8_stationFact_X8 hP 0 rfl rfl 0 (nm := "land") (ds := "LThirteenthDay$Land;") (fin := true) rfl (by decide) zk_X8_stationFact_10 rfl dX8_stationFact_31 ?_
      refine lv_iload_n hx hb dX8_stationFact_34 rfl (lv_at hl 1 rfl) ?_
      refine lv_iload_n hx hb dX8_stationFact_35 rfl (lv_at hl 2 rfl) ?_
      refine zz_callVi C (As := [.int v1, .int v2]) (rest := []) (zc_X1_getStation _ _ _) (cwV 2 hts gX8_stationFact_X1_getStation rfl rfl rfl zd_X1_getStation ⟨Nat.le_of_ble_eq_true rfl, Nat.le_of_ble_eq_true rfl⟩) hP hS 1 rfl rfl rfl hl rfl (Nat.le_of_ble_eq_true rfl) dX8_stationFact_36 ⟨Nat.zero_le _, Nat.zero_le _⟩ (fun H locs hP hS => ?_)
      rw [← (Option.some.inj hf)]
      exact zz_reti C hr hP hS dX8_stationFact_39
    · rw [if_pos h] at hf
      refine lv_aload_n hx hb dX8_stationFact_19 rfl (lv_at hl 0 rfl) ?_
      refine zz_getf C zi_X8_stationFact_X8 hP 0 rfl rfl 4 (nm := "trains") (ds := "LThirteenthDay$Trains;") (fin := true) rfl (by decide) zk_X8_stationFact_36 rfl dX8_stationFact_20 ?_
      refine lv_iload_n hx hb dX8_stationFact_23 rfl (lv_at hl 1 rfl) ?_
      obtain ⟨x1, e2, hf⟩ := zz_bo hf
      refine zz_callVi C (As := [.int v1]) (rest := []) (zc_X6_countUnloadingAt _ _ _ e2) (cwV 1 hts gX8_stationFact_X6_countUnloadingAt rfl rfl rfl zd_X6_countUnloadingAt ⟨Nat.le_of_ble_eq_true rfl, Nat.le_of_ble_eq_true rfl⟩) hP hS 5 rfl rfl rfl hl rfl (Nat.le_of_ble_eq_true rfl) dX8_stationFact_24 ⟨Nat.zero_le _, Nat.zero_le _⟩ (fun H locs hP hS => ?_)
      refine lv_goto (tgt := 39) hx hb dX8_stationFact_27 (by decide) ?_
      rw [← (Option.some.inj hf)]
      exact zz_reti C hr hP hS dX8_stationFact_39
  · rw [if_pos h] at hf
    refine lv_aload_n hx hb dX8_stationFact_5 rfl (lv_at hl 0 rfl) ?_
    refine zz_getf C zi_X8_stationFact_X8 hP 0 rfl rfl 4 (nm := "trains") (ds := "LThirteenthDay$Trains;") (fin := true) rfl (by decide) zk_X8_stationFact_36 rfl dX8_stationFact_6 ?_
    refine lv_iload_n hx hb dX8_stationFact_9 rfl (lv_at hl 1 rfl) ?_
    obtain ⟨x3, e4, hf⟩ := zz_bo hf
    refine zz_callVi C (As := [.int v1]) (rest := []) (zc_X6_countAt _ _ _ e4) (cwV 1 hts gX8_stationFact_X6_countAt rfl rfl rfl zd_X6_countAt ⟨Nat.le_of_ble_eq_true rfl, Nat.le_of_ble_eq_true rfl⟩) hP hS 5 rfl rfl rfl hl rfl (Nat.le_of_ble_eq_true rfl) dX8_stationFact_10 ⟨Nat.zero_le _, Nat.zero_le _⟩ (fun H locs hP hS => ?_)
    rw [← (Option.some.inj hf)]
    exact zz_reti C hr hP hS dX8_stationFact_13
/-! X8_digestLand PR -/
theorem zd_X8_digestLand : yX8_digestLand.cls = RX8 ∧ yX8_digestLand.cls ≠ "java/lang/invoke/MethodHandle" ∧ yX8_digestLand.cls ≠ "java/lang/invoke/VarHandle" ∧ (parseMethodDescriptor yX8_digestLand.desc).map (fun d => d.parameters.length) = some 1 := by decide +kernel
abbrev zr_X8_digestLand : Room := { frames := 4, cells := 0, slots := 0, locals := 92 }
theorem zk_X8_digestLand_10 : Cond.fieldLink yX8_digestLand.cls 10 RX8 "land" "LThirteenthDay$Land;" ∈ wsX8_digestLand := by decide +kernel
theorem zk_X8_digestLand_c404 : Cond.constantLong yX8_digestLand.cls 404 31 ∈ wsX8_digestLand := by decide +kernel
theorem zi_X8_digestLand_X8 : ∀ w ∈ u_ws RX8 TX8 11, w ∈ wsX8_digestLand := by decide +kernel
def zX8_digestLand_72 (k57 : Int64 → Int32 → zz_T → Option Int64) : Nat → Int64 → Int32 → Int32 → zz_T → Option Int64
  | 0, _, _, _, _ => none
  | n + 1, v3, v5, v6, st =>
    if 6 < v6 then
      k57 v3 (v5 + 1) st
    else
      (zX8_lineFact v5 v6 st).bind fun x1 =>
      zz_v ((v3 * 31) + (x1.toInt64)) fun w3 =>
      zX8_digestLand_72 k57 n w3 v5 (v6 + 1) st
set_option maxHeartbeats 4000000 in
set_option maxRecDepth 100000 in
theorem zt_X8_digestLand_72 {l : Launch} {A : Nat → Prop} {D : va_G} {cI : ClassId} {q : Nat → Nat} {p : Program} {e : Env} {s : State} {m : MethodId} {args : Array Value} {below : List Frame} {meth : Method} {c : Code} (C : zz_C A D cI q p s m args meth c cX8_digestLand 7 wsX8_digestLand yX8_digestLand.cls) (hr : meth.sig.returnType = some .long) (k57 : Int64 → Int32 → zz_T → Option Int64) (hk57 : ∀ (v3 : Int64) (v5 : Int32) (st : zz_T) (H : Heap) (locs : List Loc) (ls : Array Slot) (r : Int64), k57 v3 v5 st = some r → va_P D vwCl (zz_c q cI st) H → va_S A s.heap H locs → lv_has ls 7 [(0, .ref (q 0)), (3, .long v3), (5, .int v5)] → W p l e zr_X8_digestLand s m args below meth c H locs 0 0 (zz_Ql A D cI q r st below args s) (F0 m 57 ls [])) : ∀ (n : Nat) (v3 : Int64) (v5 : Int32) (v6 : Int32) (st : zz_T) (H : Heap) (locs : List Loc) (ls : Array Slot) (r : Int64), zX8_digestLand_72 k57 n v3 v5 v6 st = some r → va_P D vwCl (zz_c q cI st) H → va_S A s.heap H locs → lv_has ls 7 [(0, .ref (q 0)), (3, .long v3), (5, .int v5), (6, .int v6)] → W p l e zr_X8_digestLand s m args below meth c H locs 0 0 (zz_Ql A D cI q r st below args s) (F0 m 72 ls []) := by
  obtain ⟨hx, hb, hml, hown, hts⟩ := id C.1
  intro n
  induction n with
  | zero => intro v3 v5 v6 st H locs ls r hf; cases hf
  | succ n ih =>
    intro v3 v5 v6 st H locs ls r hf hP hS hl
    rw [zX8_digestLand_72] at hf
    refine lv_iload hx hb dX8_digestLand_72 (lv_at hl 3 rfl) ?_
    refine lv_bipush (v := 6) hx hb dX8_digestLand_74 (by decide) ?_
    refine lv_icmp_gt (tgt := 101) hx hb dX8_digestLand_76 (by decide) (fun h => ?_) (fun h => ?_)
    · rw [if_pos h] at hf
      refine lv_iinc (v := (v5 + 1)) (lv' := [(5, .int (v5 + 1)), (0, .ref (q 0)), (3, .long v3), (6, .int v6)]) hx hb dX8_digestLand_101 hl (k := 2) rfl (congrArg (fun z => v5 + z) (by decide)) (by decide) rfl (fun ls hl => ?_)
      refine lv_goto (tgt := 57) hx hb dX8_digestLand_104 (by decide) ?_
      exact hk57 _ _ _ _ _ _ _ hf hP hS (lv_sub hl [1, 2, 0] rfl)
    · rw [if_neg h] at hf
      refine lv_lload_n hx hb dX8_digestLand_79 rfl (lv_at hl 1 rfl) ?_
      refine lv_ldc2 (v := 31) hx hb hown (hts _ zk_X8_digestLand_c404) dX8_digestLand_80 ?_
      refine lv_lmul hx hb dX8_digestLand_83 ?_
      refine lv_aload_n hx hb dX8_digestLand_84 rfl (lv_at hl 0 rfl) ?_
      refine lv_iload hx hb dX8_digestLand_85 (lv_at hl 2 rfl) ?_
      refine lv_iload hx hb dX8_digestLand_87 (lv_at hl 3 rfl) ?_
      obtain ⟨x1, e2, hf⟩ := zz_bo hf
      refine zz_callVi C (As := [.int v5, .int v6]) (rest := [.long (v3 * 31)]) (zc_X8_lineFact _ _ _ _ e2) (cwV 2 hts gX8_digestLand_X8_lineFact rfl rfl rfl zd_X8_lineFact ⟨Nat.le_of_ble_eq_true rfl, Nat.le_of_ble_eq_true rfl⟩) hP hS 0 rfl rfl rfl hl rfl (Nat.le_of_ble_eq_true rfl) dX8_digestLand_89 ⟨Nat.zero_le _, Nat.zero_le _⟩ (fun H locs hP hS => ?_)
      refine lv_i2l (v := x1.toInt64) hx hb dX8_digestLand_92 rfl ?_
      refine lv_ladd hx hb dX8_digestLand_93 ?_
      refine lv_topl (fun w3 e3 => ?_)
      replace hf := zz_vi hf e3
      refine lv_lstore_n (lv' := [(3, .long w3), (0, .ref (q 0)), (5, .int v5), (6, .int v6)]) hx hb dX8_digestLand_94 rfl hl (by decide) rfl (fun ls hl => ?_)
      refine lv_iinc (v := (v6 + 1)) (lv' := [(6, .int (v6 + 1)), (3, .long w3), (0, .ref (q 0)), (5, .int v5)]) hx hb dX8_digestLand_95 hl (k := 3) rfl (congrArg (fun z => v6 + z) (by decide)) (by decide) rfl (fun ls hl => ?_)
      refine lv_goto (tgt := 72) hx hb dX8_digestLand_98 (by decide) ?_
      exact ih _ _ _ _ _ _ _ _ hf hP hS (lv_sub hl [2, 1, 3, 0] rfl)
def zX8_digestLand_57 : Nat → Int64 → Int32 → zz_T → Option Int64
  | 0, _, _, _ => none
  | n + 1, v3, v5, st =>
    if (zX1_countLines st) ≤ v5 then
      some v3
    else
      zX8_digestLand_72 (fun v3' v5' st' => zX8_digestLand_57 n v3' v5' st') zz_N v3 v5 0 st
set_option maxHeartbeats 4000000 in
set_option maxRecDepth 100000 in
theorem zt_X8_digestLand_57 {l : Launch} {A : Nat → Prop} {D : va_G} {cI : ClassId} {q : Nat → Nat} {p : Program} {e : Env} {s : State} {m : MethodId} {args : Array Value} {below : List Frame} {meth : Method} {c : Code} (C : zz_C A D cI q p s m args meth c cX8_digestLand 7 wsX8_digestLand yX8_digestLand.cls) (hr : meth.sig.returnType = some .long) : ∀ (n : Nat) (v3 : Int64) (v5 : Int32) (st : zz_T) (H : Heap) (locs : List Loc) (ls : Array Slot) (r : Int64), zX8_digestLand_57 n v3 v5 st = some r → va_P D vwCl (zz_c q cI st) H → va_S A s.heap H locs → lv_has ls 7 [(0, .ref (q 0)), (3, .long v3), (5, .int v5)] → W p l e zr_X8_digestLand s m args below meth c H locs 0 0 (zz_Ql A D cI q r st below args s) (F0 m 57 ls []) := by
  obtain ⟨hx, hb, hml, hown, hts⟩ := id C.1
  intro n
  induction n with
  | zero => intro v3 v5 st H locs ls r hf; cases hf
  | succ n ih =>
    intro v3 v5 st H locs ls r hf hP hS hl
    rw [zX8_digestLand_57] at hf
    refine lv_iload hx hb dX8_digestLand_57 (lv_at hl 2 rfl) ?_
    refine lv_aload_n hx hb dX8_digestLand_59 rfl (lv_at hl 0 rfl) ?_
    refine zz_getf C zi_X8_digestLand_X8 hP 0 rfl rfl 0 (nm := "land") (ds := "LThirteenthDay$Land;") (fin := true) rfl (by decide) zk_X8_digestLand_10 rfl dX8_digestLand_60 ?_
    refine zz_callVi C (As := []) (rest := [.int v5]) (zc_X1_countLines _) (cwV 0 hts gX8_digestLand_X1_countLines rfl rfl rfl zd_X1_countLines ⟨Nat.le_of_ble_eq_true rfl, Nat.le_of_ble_eq_true rfl⟩) hP hS 1 rfl rfl rfl hl rfl (Nat.le_of_ble_eq_true rfl) dX8_digestLand_63 ⟨Nat.zero_le _, Nat.zero_le _⟩ (fun H locs hP hS => ?_)
    refine lv_icmp_ge (tgt := 107) hx hb dX8_digestLand_66 (by decide) (fun h => ?_) (fun h => ?_)
    · rw [if_pos h] at hf
      refine lv_lload_n hx hb dX8_digestLand_107 rfl (lv_at hl 1 rfl) ?_
      rw [← (Option.some.inj hf)]
      exact zz_retl C hr hP hS dX8_digestLand_108
    · rw [if_neg h] at hf
      refine lv_iconst (v := 0) hx hb dX8_digestLand_69 (by decide) ?_
      refine lv_istore (lv' := [(6, .int 0), (0, .ref (q 0)), (3, .long v3), (5, .int v5)]) hx hb dX8_digestLand_70 hl (by decide) rfl (fun ls hl => ?_)
      exact zt_X8_digestLand_72 C hr _ ih zz_N _ _ _ _ _ _ _ _ hf hP hS (lv_sub hl [1, 2, 3, 0] rfl)
def zX8_digestLand_20 (k5 : Int64 → Int32 → zz_T → Option Int64) : Nat → Int64 → Int32 → Int32 → zz_T → Option Int64
  | 0, _, _, _, _ => none
  | n + 1, v3, v5, v6, st =>
    if 5 < v6 then
      k5 v3 (v5 + 1) st
    else
      (zX8_stationFact v5 v6 st).bind fun x4 =>
      zz_v ((v3 * 31) + (x4.toInt64)) fun w6 =>
      zX8_digestLand_20 k5 n w6 v5 (v6 + 1) st
set_option maxHeartbeats 4000000 in
set_option maxRecDepth 100000 in
theorem zt_X8_digestLand_20 {l : Launch} {A : Nat → Prop} {D : va_G} {cI : ClassId} {q : Nat → Nat} {p : Program} {e : Env} {s : State} {m : MethodId} {args : Array Value} {below : List Frame} {meth : Method} {c : Code} (C : zz_C A D cI q p s m args meth c cX8_digestLand 7 wsX8_digestLand yX8_digestLand.cls) (hr : meth.sig.returnType = some .long) (k5 : Int64 → Int32 → zz_T → Option Int64) (hk5 : ∀ (v3 : Int64) (v5 : Int32) (st : zz_T) (H : Heap) (locs : List Loc) (ls : Array Slot) (r : Int64), k5 v3 v5 st = some r → va_P D vwCl (zz_c q cI st) H → va_S A s.heap H locs → lv_has ls 7 [(0, .ref (q 0)), (3, .long v3), (5, .int v5)] → W p l e zr_X8_digestLand s m args below meth c H locs 0 0 (zz_Ql A D cI q r st below args s) (F0 m 5 ls [])) : ∀ (n : Nat) (v3 : Int64) (v5 : Int32) (v6 : Int32) (st : zz_T) (H : Heap) (locs : List Loc) (ls : Array Slot) (r : Int64), zX8_digestLand_20 k5 n v3 v5 v6 st = some r → va_P D vwCl (zz_c q cI st) H → va_S A s.heap H locs → lv_has ls 7 [(0, .ref (q 0)), (3, .long v3), (5, .int v5), (6, .int v6)] → W p l e zr_X8_digestLand s m args below meth c H locs 0 0 (zz_Ql A D cI q r st below args s) (F0 m 20 ls []) := by
  obtain ⟨hx, hb, hml, hown, hts⟩ := id C.1
  intro n
  induction n with
  | zero => intro v3 v5 v6 st H locs ls r hf; cases hf
  | succ n ih =>
    intro v3 v5 v6 st H locs ls r hf hP hS hl
    rw [zX8_digestLand_20] at hf
    refine lv_iload hx hb dX8_digestLand_20 (lv_at hl 3 rfl) ?_
    refine lv_iconst (v := 5) hx hb dX8_digestLand_22 (by decide) ?_
    refine lv_icmp_gt (tgt := 48) hx hb dX8_digestLand_23 (by decide) (fun h => ?_) (fun h => ?_)
    · rw [if_pos h] at hf
      refine lv_iinc (v := (v5 + 1)) (lv' := [(5, .int (v5 + 1)), (0, .ref (q 0)), (3, .long v3), (6, .int v6)]) hx hb dX8_digestLand_48 hl (k := 2) rfl (congrArg (fun z => v5 + z) (by decide)) (by decide) rfl (fun ls hl => ?_)
      refine lv_goto (tgt := 5) hx hb dX8_digestLand_51 (by decide) ?_
      exact hk5 _ _ _ _ _ _ _ hf hP hS (lv_sub hl [1, 2, 0] rfl)
    · rw [if_neg h] at hf
      refine lv_lload_n hx hb dX8_digestLand_26 rfl (lv_at hl 1 rfl) ?_
      refine lv_ldc2 (v := 31) hx hb hown (hts _ zk_X8_digestLand_c404) dX8_digestLand_27 ?_
      refine lv_lmul hx hb dX8_digestLand_30 ?_
      refine lv_aload_n hx hb dX8_digestLand_31 rfl (lv_at hl 0 rfl) ?_
      refine lv_iload hx hb dX8_digestLand_32 (lv_at hl 2 rfl) ?_
      refine lv_iload hx hb dX8_digestLand_34 (lv_at hl 3 rfl) ?_
      obtain ⟨x4, e5, hf⟩ := zz_bo hf
      refine zz_callVi C (As := [.int v5, .int v6]) (rest := [.long (v3 * 31)]) (zc_X8_stationFact _ _ _ _ e5) (cwV 2 hts gX8_digestLand_X8_stationFact rfl rfl rfl zd_X8_stationFact ⟨Nat.le_of_ble_eq_true rfl, Nat.le_of_ble_eq_true rfl⟩) hP hS 0 rfl rfl rfl hl rfl (Nat.le_of_ble_eq_true rfl) dX8_digestLand_36 ⟨Nat.zero_le _, Nat.zero_le _⟩ (fun H locs hP hS => ?_)
      refine lv_i2l (v := x4.toInt64) hx hb dX8_digestLand_39 rfl ?_
      refine lv_ladd hx hb dX8_digestLand_40 ?_
      refine lv_topl (fun w6 e6 => ?_)
      replace hf := zz_vi hf e6
      refine lv_lstore_n (lv' := [(3, .long w6), (0, .ref (q 0)), (5, .int v5), (6, .int v6)]) hx hb dX8_digestLand_41 rfl hl (by decide) rfl (fun ls hl => ?_)
      refine lv_iinc (v := (v6 + 1)) (lv' := [(6, .int (v6 + 1)), (3, .long w6), (0, .ref (q 0)), (5, .int v5)]) hx hb dX8_digestLand_42 hl (k := 3) rfl (congrArg (fun z => v6 + z) (by decide)) (by decide) rfl (fun ls hl => ?_)
      refine lv_goto (tgt := 20) hx hb dX8_digestLand_45 (by decide) ?_
      exact ih _ _ _ _ _ _ _ _ hf hP hS (lv_sub hl [2, 1, 3, 0] rfl)
def zX8_digestLand_5 : Nat → Int64 → Int32 → zz_T → Option Int64
  | 0, _, _, _ => none
  | n + 1, v3, v5, st =>
    if (zX1_countStations st) ≤ v5 then
      zX8_digestLand_57 zz_N v3 0 st
    else
      zX8_digestLand_20 (fun v3' v5' st' => zX8_digestLand_5 n v3' v5' st') zz_N v3 v5 0 st
set_option maxHeartbeats 4000000 in
set_option maxRecDepth 100000 in
theorem zt_X8_digestLand_5 {l : Launch} {A : Nat → Prop} {D : va_G} {cI : ClassId} {q : Nat → Nat} {p : Program} {e : Env} {s : State} {m : MethodId} {args : Array Value} {below : List Frame} {meth : Method} {c : Code} (C : zz_C A D cI q p s m args meth c cX8_digestLand 7 wsX8_digestLand yX8_digestLand.cls) (hr : meth.sig.returnType = some .long) : ∀ (n : Nat) (v3 : Int64) (v5 : Int32) (st : zz_T) (H : Heap) (locs : List Loc) (ls : Array Slot) (r : Int64), zX8_digestLand_5 n v3 v5 st = some r → va_P D vwCl (zz_c q cI st) H → va_S A s.heap H locs → lv_has ls 7 [(0, .ref (q 0)), (3, .long v3), (5, .int v5)] → W p l e zr_X8_digestLand s m args below meth c H locs 0 0 (zz_Ql A D cI q r st below args s) (F0 m 5 ls []) := by
  obtain ⟨hx, hb, hml, hown, hts⟩ := id C.1
  intro n
  induction n with
  | zero => intro v3 v5 st H locs ls r hf; cases hf
  | succ n ih =>
    intro v3 v5 st H locs ls r hf hP hS hl
    rw [zX8_digestLand_5] at hf
    refine lv_iload hx hb dX8_digestLand_5 (lv_at hl 2 rfl) ?_
    refine lv_aload_n hx hb dX8_digestLand_7 rfl (lv_at hl 0 rfl) ?_
    refine zz_getf C zi_X8_digestLand_X8 hP 0 rfl rfl 0 (nm := "land") (ds := "LThirteenthDay$Land;") (fin := true) rfl (by decide) zk_X8_digestLand_10 rfl dX8_digestLand_8 ?_
    refine zz_callVi C (As := []) (rest := [.int v5]) (zc_X1_countStations _) (cwV 0 hts gX8_digestLand_X1_countStations rfl rfl rfl zd_X1_countStations ⟨Nat.le_of_ble_eq_true rfl, Nat.le_of_ble_eq_true rfl⟩) hP hS 1 rfl rfl rfl hl rfl (Nat.le_of_ble_eq_true rfl) dX8_digestLand_11 ⟨Nat.zero_le _, Nat.zero_le _⟩ (fun H locs hP hS => ?_)
    refine lv_icmp_ge (tgt := 54) hx hb dX8_digestLand_14 (by decide) (fun h => ?_) (fun h => ?_)
    · rw [if_pos h] at hf
      refine lv_iconst (v := 0) hx hb dX8_digestLand_54 (by decide) ?_
      refine lv_istore (lv' := [(5, .int 0), (0, .ref (q 0)), (3, .long v3)]) hx hb dX8_digestLand_55 hl (by decide) rfl (fun ls hl => ?_)
      exact zt_X8_digestLand_57 C hr zz_N _ _ _ _ _ _ _ hf hP hS (lv_sub hl [1, 2, 0] rfl)
    · rw [if_neg h] at hf
      refine lv_iconst (v := 0) hx hb dX8_digestLand_17 (by decide) ?_
      refine lv_istore (lv' := [(6, .int 0), (0, .ref (q 0)), (3, .long v3), (5, .int v5)]) hx hb dX8_digestLand_18 hl (by decide) rfl (fun ls hl => ?_)
      exact zt_X8_digestLand_20 C hr _ ih zz_N _ _ _ _ _ _ _ _ hf hP hS (lv_sub hl [1, 2, 3, 0] rfl)
def zX8_digestLand (v1 : Int64) (st : zz_T) : Option Int64 :=
  zX8_digestLand_5 zz_N v1 0 st
set_option maxHeartbeats 4000000 in
set_option maxRecDepth 100000 in
theorem zc_X8_digestLand {l : Launch} {A : Nat → Prop} {D : va_G} {cI : ClassId} {q : Nat → Nat} (v1 : Int64) (st : zz_T) (r : Int64) (hf : zX8_digestLand v1 st = some r) : zz_Ml l A D cI q yX8_digestLand wsX8_digestLand zr_X8_digestLand [.ref (q 0), .long v1] st r st := by
  refine zz_of (cc := cX8_digestLand) (nL := 7) (ret := some .long) (by decide) rfl (Nat.le_of_ble_eq_true rfl) ?_
  intro p e s m args below meth c ls C hr hP hS hl
  obtain ⟨hx, hb, hml, hown, hts⟩ := id C.1
  have hl : lv_has ls 7 [(0, .ref (q 0)), (1, .long v1)] := hl
  rw [zX8_digestLand] at hf
  skip
  refine lv_lload_n hx hb dX8_digestLand_0 rfl (lv_at hl 1 rfl) ?_
  refine lv_lstore_n (lv' := [(3, .long v1), (0, .ref (q 0)), (1, .long v1)]) hx hb dX8_digestLand_1 rfl hl (by decide) rfl (fun ls hl => ?_)
  refine lv_iconst (v := 0) hx hb dX8_digestLand_2 (by decide) ?_
  refine lv_istore (lv' := [(5, .int 0), (3, .long v1), (0, .ref (q 0)), (1, .long v1)]) hx hb dX8_digestLand_3 hl (by decide) rfl (fun ls hl => ?_)
  exact zt_X8_digestLand_5 C hr zz_N _ _ _ _ _ _ _ hf hP hS (lv_sub hl [2, 1, 0] rfl)
