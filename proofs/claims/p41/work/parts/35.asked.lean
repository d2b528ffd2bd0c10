/-! L_isAsked, written by genlaw.py -/
abbrev zr_L_isAsked : Room := { frames := 7, cells := 2, slots := 9, locals := 172 }
theorem zl_in {x : Int32} {n : Nat} (h : 0 ≤ x ∧ x < nI n) (hn : n < 2 ^ 31) : vp_in x n := by
  obtain ⟨j, hj, hx, -, hc, -⟩ := pk_mu (x := x) (L := n) (Int32.not_lt.mpr h.1) (Int32.not_le.mpr h.2) hn
  rintro (q | q)
  · exact Int32.not_lt.mpr h.1 q
  · omega
theorem zl_cmp {x y : Int64} : lg_cmp x y = 0 ↔ x = y := by
  unfold lg_cmp
  split <;> rename_i h
  · exact ⟨fun q => absurd q (by decide), fun q => absurd (q ▸ h) (by simp)⟩
  · split <;> rename_i h2
    · exact ⟨fun _ => h2, fun _ => rfl⟩
    · exact ⟨fun q => absurd q (by decide), fun q => absurd q h2⟩
def zL_isAsked_298 (f1 : Nat → Int32) : Nat → Int64 → Int32 → Int32 → Int32 → Int32 → Int32 → (Nat → Int32) → (Nat → Int32) → zz_T → Option (Bool × zz_T)
  | 0, _, _, _, _, _, _, _, _, _ => none
  | n + 1, v2, v9, v10, v11, v12, v14, f4, f13, st =>
    if 6 ≤ v14 then
      (zX8_ofSector 0 2 st).bind fun x9 =>
      (zX8_ofSector 1 2 st).bind fun x11 =>
      (zX8_ofSector 2 2 st).bind fun x13 =>
      zz_v ((x9 + x11) + x13) fun w15 =>
      (zX8_many 9 st).bind fun x16 =>
      if v9 = x16 then
        (zX8_many 8 st).bind fun x18 =>
        (zX8_many 7 st).bind fun x20 =>
        if (v10 + x18) = x20 then
          if w15 = v11 then
            (zX8_ofSector 0 3 st).bind fun x22 =>
            (zX8_ofSector 1 3 st).bind fun x24 =>
            (zX8_ofSector 2 3 st).bind fun x26 =>
            if v12 = ((x22 + x24) + x26) then
              (zX8_digest st).bind fun x28 =>
              if x28 = v2 then
                some (true, st)
              else
                some (false, st)
            else
              some (false, st)
          else
            some (false, st)
        else
          some (false, st)
      else
        some (false, st)
    else
      (zX8_ofUnit v14 8 st).bind fun x30 =>
      zz_v (v9 + x30) fun w32 =>
      (zX8_ofUnit v14 11 st).bind fun x33 =>
      zz_v (v10 + x33) fun w35 =>
      (zX8_ofUnit v14 9 st).bind fun x36 =>
      zz_v (v11 + x36) fun w38 =>
      if 0 ≤ v14 ∧ v14 < 6 then
        if 0 ≤ (f1 v14.toNatClampNeg) ∧ (f1 v14.toNatClampNeg) < 5 then
          (zX8_ofUnit v14 9 st).bind fun x39 =>
          zz_v (v12 + ((f13 (f1 v14.toNatClampNeg).toNatClampNeg) * x39)) fun w41 =>
          (zX8_ofUnit v14 7 st).bind fun x42 =>
          (zX8_ofUnit v14 1 st).bind fun x44 =>
          if x44 ≤ x42 then
            zL_isAsked_298 f1 n v2 w32 w35 w38 w41 (v14 + 1) f4 f13 st
          else
            (zX8_ofUnit v14 4 st).bind fun x46 =>
            if x46 = 3 then
              zL_isAsked_298 f1 n v2 w32 w35 w38 w41 (v14 + 1) f4 f13 st
            else
              (zX8_could v14 2880 st).bind fun x48 =>
              if (-20) ≤ x48.1 then
                zL_isAsked_298 f1 n v2 w32 w35 w38 w41 (v14 + 1) f4 f13 x48.2
              else
                some (false, x48.2)
        else
          none
      else
        none
set_option maxHeartbeats 4000000 in
set_option maxRecDepth 100000 in
theorem zt_L_isAsked_298 {p : Program} {l : Launch} {e : Env} {s : State} {m : MethodId} {args : Array Value} {below : List Frame} {meth : Method} {c : Code} {A : Nat → Prop} {D : va_G} {cI : ClassId} {q : Nat → Nat} (C : zl_C A D cI p s m args meth c cL_isAsked 15 wsL_isAsked yL_isAsked.cls) (hr : meth.sig.returnType = some .boolean) (a1 : Nat) (f1 : Nat → Int32) (hk1 : va_P D vwCl [(a1, .inl (cI, 6, .inl f1))] s.heap) (hkA : ¬ A a1) : ∀ (n : Nat) (v2 : Int64) (v9 : Int32) (v10 : Int32) (v11 : Int32) (v12 : Int32) (v14 : Int32) (f4 : (Nat → Int32)) (f13 : (Nat → Int32)) (a4 : Nat) (a13 : Nat) (st : zz_T) (H : Heap) (locs : List Loc) (ls : Array Slot) (r : (Bool × zz_T)), zL_isAsked_298 f1 n v2 v9 v10 v11 v12 v14 f4 f13 st = some r → zl_W A D cI q [(a4, .inl (cI, 4, .inl f4)), (a13, .inl (cI, 5, .inl f13))] st s.heap H locs → lv_has ls 15 [(0, .ref (q 0)), (1, .ref (a1)), (2, .long v2), (9, .int v9), (10, .int v10), (11, .int v11), (12, .int v12), (13, .ref (a13)), (14, .int v14)] → W p l e zr_L_isAsked s m args below meth c H locs 2 9 (MQ below (va_Qi (fun (x : Int32) (u : zz_T) => x = zz_b r.1 ∧ u = r.2) (fun u t => zz_B A D cI q u t) A) args s 2 9 A) (F0 m 298 ls []) := by
  obtain ⟨hx, hb, hml, hown, hts⟩ := id C.1
  intro n
  induction n with
  | zero => intro v2 v9 v10 v11 v12 v14 f4 f13 a4 a13 st H locs ls r hf; cases hf
  | succ n ih =>
    intro v2 v9 v10 v11 v12 v14 f4 f13 a4 a13 st H locs ls r hf hw hl
    rw [zL_isAsked_298] at hf
    refine lv_iload hx hb dL_isAsked_298 (lv_at hl 8 rfl) ?_
    refine lv_bipush (v := 6) hx hb dL_isAsked_300 (by decide) ?_
    refine lv_icmp_ge (tgt := 416) hx hb dL_isAsked_302 (by decide) (fun h => ?_) (fun h => ?_)
    · rw [if_pos h] at hf
      refine lv_aload_n hx hb dL_isAsked_416 rfl (lv_at hl 0 rfl) ?_
      refine lv_iconst (v := 0) hx hb dL_isAsked_417 (by decide) ?_
      refine lv_iconst (v := 2) hx hb dL_isAsked_418 (by decide) ?_
      obtain ⟨x9, e10, hf⟩ := zz_bo hf
      refine zl_Vi C (As := [.int 0, .int 2]) (rest := []) (zc_X8_ofSector _ _ _ _ e10) (cwV 2 hts gL_isAsked_X8_ofSector rfl rfl rfl zd_X8_ofSector ⟨(Nat.le_of_ble_eq_true rfl), (Nat.le_of_ble_eq_true rfl)⟩) hw 0 rfl rfl rfl hl rfl (Nat.le_of_ble_eq_true rfl) dL_isAsked_419 ⟨(Nat.le_of_ble_eq_true rfl), (Nat.le_of_ble_eq_true rfl)⟩ (fun H locs hw => ?_)
      refine lv_aload_n hx hb dL_isAsked_422 rfl (lv_at hl 0 rfl) ?_
      refine lv_iconst (v := 1) hx hb dL_isAsked_423 (by decide) ?_
      refine lv_iconst (v := 2) hx hb dL_isAsked_424 (by decide) ?_
      obtain ⟨x11, e12, hf⟩ := zz_bo hf
      refine zl_Vi C (As := [.int 1, .int 2]) (rest := [.int x9]) (zc_X8_ofSector _ _ _ _ e12) (cwV 2 hts gL_isAsked_X8_ofSector rfl rfl rfl zd_X8_ofSector ⟨(Nat.le_of_ble_eq_true rfl), (Nat.le_of_ble_eq_true rfl)⟩) hw 0 rfl rfl rfl hl rfl (Nat.le_of_ble_eq_true rfl) dL_isAsked_425 ⟨(Nat.le_of_ble_eq_true rfl), (Nat.le_of_ble_eq_true rfl)⟩ (fun H locs hw => ?_)
      refine lv_iadd hx hb dL_isAsked_428 ?_
      refine lv_aload_n hx hb dL_isAsked_429 rfl (lv_at hl 0 rfl) ?_
      refine lv_iconst (v := 2) hx hb dL_isAsked_430 (by decide) ?_
      refine lv_iconst (v := 2) hx hb dL_isAsked_431 (by decide) ?_
      obtain ⟨x13, e14, hf⟩ := zz_bo hf
      refine zl_Vi C (As := [.int 2, .int 2]) (rest := [.int (x9 + x11)]) (zc_X8_ofSector _ _ _ _ e14) (cwV 2 hts gL_isAsked_X8_ofSector rfl rfl rfl zd_X8_ofSector ⟨(Nat.le_of_ble_eq_true rfl), (Nat.le_of_ble_eq_true rfl)⟩) hw 0 rfl rfl rfl hl rfl (Nat.le_of_ble_eq_true rfl) dL_isAsked_432 ⟨(Nat.le_of_ble_eq_true rfl), (Nat.le_of_ble_eq_true rfl)⟩ (fun H locs hw => ?_)
      refine lv_iadd hx hb dL_isAsked_435 ?_
      refine lv_topi (fun w15 e15 => ?_)
      replace hf := zz_vi hf e15
      refine lv_istore (lv' := [(14, .int w15), (0, .ref (q 0)), (1, .ref (a1)), (2, .long v2), (9, .int v9), (10, .int v10), (11, .int v11), (12, .int v12), (13, .ref (a13))]) hx hb dL_isAsked_436 hl (by decide) rfl (fun ls hl => ?_)
      refine lv_iload hx hb dL_isAsked_438 (lv_at hl 4 rfl) ?_
      refine lv_aload_n hx hb dL_isAsked_440 rfl (lv_at hl 1 rfl) ?_
      refine lv_bipush (v := 9) hx hb dL_isAsked_441 (by decide) ?_
      obtain ⟨x16, e17, hf⟩ := zz_bo hf
      refine zl_Vi C (As := [.int 9]) (rest := [.int v9]) (zc_X8_many _ _ _ e17) (cwV 1 hts gL_isAsked_X8_many rfl rfl rfl zd_X8_many ⟨(Nat.le_of_ble_eq_true rfl), (Nat.le_of_ble_eq_true rfl)⟩) hw 0 rfl rfl rfl hl rfl (Nat.le_of_ble_eq_true rfl) dL_isAsked_443 ⟨(Nat.le_of_ble_eq_true rfl), (Nat.le_of_ble_eq_true rfl)⟩ (fun H locs hw => ?_)
      refine lv_icmp_ne (tgt := 512) hx hb dL_isAsked_446 (by decide) (fun h => ?_) (fun h => ?_)
      · rw [if_neg h] at hf
        refine lv_iconst (v := 0) hx hb dL_isAsked_512 (by decide) ?_
        rw [← (Option.some.inj hf)]
        refine W.widen (k := 2) (n := 9) (Nat.le_of_ble_eq_true rfl) (Nat.le_of_ble_eq_true rfl) ?_
        exact zl_retz (v := false) C hr hw dL_isAsked_513
      · rw [if_pos h] at hf
        refine lv_iload hx hb dL_isAsked_449 (lv_at hl 5 rfl) ?_
        refine lv_aload_n hx hb dL_isAsked_451 rfl (lv_at hl 1 rfl) ?_
        refine lv_bipush (v := 8) hx hb dL_isAsked_452 (by decide) ?_
        obtain ⟨x18, e19, hf⟩ := zz_bo hf
        refine zl_Vi C (As := [.int 8]) (rest := [.int v10]) (zc_X8_many _ _ _ e19) (cwV 1 hts gL_isAsked_X8_many rfl rfl rfl zd_X8_many ⟨(Nat.le_of_ble_eq_true rfl), (Nat.le_of_ble_eq_true rfl)⟩) hw 0 rfl rfl rfl hl rfl (Nat.le_of_ble_eq_true rfl) dL_isAsked_454 ⟨(Nat.le_of_ble_eq_true rfl), (Nat.le_of_ble_eq_true rfl)⟩ (fun H locs hw => ?_)
        refine lv_iadd hx hb dL_isAsked_457 ?_
        refine lv_aload_n hx hb dL_isAsked_458 rfl (lv_at hl 1 rfl) ?_
        refine lv_bipush (v := 7) hx hb dL_isAsked_459 (by decide) ?_
        obtain ⟨x20, e21, hf⟩ := zz_bo hf
        refine zl_Vi C (As := [.int 7]) (rest := [.int (v10 + x18)]) (zc_X8_many _ _ _ e21) (cwV 1 hts gL_isAsked_X8_many rfl rfl rfl zd_X8_many ⟨(Nat.le_of_ble_eq_true rfl), (Nat.le_of_ble_eq_true rfl)⟩) hw 0 rfl rfl rfl hl rfl (Nat.le_of_ble_eq_true rfl) dL_isAsked_461 ⟨(Nat.le_of_ble_eq_true rfl), (Nat.le_of_ble_eq_true rfl)⟩ (fun H locs hw => ?_)
        refine lv_icmp_ne (tgt := 512) hx hb dL_isAsked_464 (by decide) (fun h => ?_) (fun h => ?_)
        · rw [if_neg h] at hf
          refine lv_iconst (v := 0) hx hb dL_isAsked_512 (by decide) ?_
          rw [← (Option.some.inj hf)]
          refine W.widen (k := 2) (n := 9) (Nat.le_of_ble_eq_true rfl) (Nat.le_of_ble_eq_true rfl) ?_
          exact zl_retz (v := false) C hr hw dL_isAsked_513
        · rw [if_pos h] at hf
          refine lv_iload hx hb dL_isAsked_467 (lv_at hl 0 rfl) ?_
          refine lv_iload hx hb dL_isAsked_469 (lv_at hl 6 rfl) ?_
          refine lv_icmp_ne (tgt := 512) hx hb dL_isAsked_471 (by decide) (fun h => ?_) (fun h => ?_)
          · rw [if_neg h] at hf
            refine lv_iconst (v := 0) hx hb dL_isAsked_512 (by decide) ?_
            rw [← (Option.some.inj hf)]
            refine W.widen (k := 2) (n := 9) (Nat.le_of_ble_eq_true rfl) (Nat.le_of_ble_eq_true rfl) ?_
            exact zl_retz (v := false) C hr hw dL_isAsked_513
          · rw [if_pos h] at hf
            refine lv_iload hx hb dL_isAsked_474 (lv_at hl 7 rfl) ?_
            refine lv_aload_n hx hb dL_isAsked_476 rfl (lv_at hl 1 rfl) ?_
            refine lv_iconst (v := 0) hx hb dL_isAsked_477 (by decide) ?_
            refine lv_iconst (v := 3) hx hb dL_isAsked_478 (by decide) ?_
            obtain ⟨x22, e23, hf⟩ := zz_bo hf
            refine zl_Vi C (As := [.int 0, .int 3]) (rest := [.int v12]) (zc_X8_ofSector _ _ _ _ e23) (cwV 2 hts gL_isAsked_X8_ofSector rfl rfl rfl zd_X8_ofSector ⟨(Nat.le_of_ble_eq_true rfl), (Nat.le_of_ble_eq_true rfl)⟩) hw 0 rfl rfl rfl hl rfl (Nat.le_of_ble_eq_true rfl) dL_isAsked_479 ⟨(Nat.le_of_ble_eq_true rfl), (Nat.le_of_ble_eq_true rfl)⟩ (fun H locs hw => ?_)
            refine lv_aload_n hx hb dL_isAsked_482 rfl (lv_at hl 1 rfl) ?_
            refine lv_iconst (v := 1) hx hb dL_isAsked_483 (by decide) ?_
            refine lv_iconst (v := 3) hx hb dL_isAsked_484 (by decide) ?_
            obtain ⟨x24, e25, hf⟩ := zz_bo hf
            refine zl_Vi C (As := [.int 1, .int 3]) (rest := [.int x22, .int v12]) (zc_X8_ofSector _ _ _ _ e25) (cwV 2 hts gL_isAsked_X8_ofSector rfl rfl rfl zd_X8_ofSector ⟨(Nat.le_of_ble_eq_true rfl), (Nat.le_of_ble_eq_true rfl)⟩) hw 0 rfl rfl rfl hl rfl (Nat.le_of_ble_eq_true rfl) dL_isAsked_485 ⟨(Nat.le_of_ble_eq_true rfl), (Nat.le_of_ble_eq_true rfl)⟩ (fun H locs hw => ?_)
            refine lv_iadd hx hb dL_isAsked_488 ?_
            refine lv_aload_n hx hb dL_isAsked_489 rfl (lv_at hl 1 rfl) ?_
            refine lv_iconst (v := 2) hx hb dL_isAsked_490 (by decide) ?_
            refine lv_iconst (v := 3) hx hb dL_isAsked_491 (by decide) ?_
            obtain ⟨x26, e27, hf⟩ := zz_bo hf
            refine zl_Vi C (As := [.int 2, .int 3]) (rest := [.int (x22 + x24), .int v12]) (zc_X8_ofSector _ _ _ _ e27) (cwV 2 hts gL_isAsked_X8_ofSector rfl rfl rfl zd_X8_ofSector ⟨(Nat.le_of_ble_eq_true rfl), (Nat.le_of_ble_eq_true rfl)⟩) hw 0 rfl rfl rfl hl rfl (Nat.le_of_ble_eq_true rfl) dL_isAsked_492 ⟨(Nat.le_of_ble_eq_true rfl), (Nat.le_of_ble_eq_true rfl)⟩ (fun H locs hw => ?_)
            refine lv_iadd hx hb dL_isAsked_495 ?_
            refine lv_icmp_ne (tgt := 512) hx hb dL_isAsked_496 (by decide) (fun h => ?_) (fun h => ?_)
            · rw [if_neg h] at hf
              refine lv_iconst (v := 0) hx hb dL_isAsked_512 (by decide) ?_
              rw [← (Option.some.inj hf)]
              refine W.widen (k := 2) (n := 9) (Nat.le_of_ble_eq_true rfl) (Nat.le_of_ble_eq_true rfl) ?_
              exact zl_retz (v := false) C hr hw dL_isAsked_513
            · rw [if_pos h] at hf
              refine lv_aload_n hx hb dL_isAsked_499 rfl (lv_at hl 1 rfl) ?_
              obtain ⟨x28, e29, hf⟩ := zz_bo hf
              refine zl_Vl C (As := []) (rest := []) (zc_X8_digest _ _ e29) (cwV 0 hts gL_isAsked_X8_digest rfl rfl rfl zd_X8_digest ⟨(Nat.le_of_ble_eq_true rfl), (Nat.le_of_ble_eq_true rfl)⟩) hw 0 rfl rfl rfl hl rfl (Nat.le_of_ble_eq_true rfl) dL_isAsked_500 ⟨(Nat.le_of_ble_eq_true rfl), (Nat.le_of_ble_eq_true rfl)⟩ (fun H locs hw => ?_)
              refine lv_lload_n hx hb dL_isAsked_503 rfl (lv_at hl 3 rfl) ?_
              refine W.lcmp hx hb dL_isAsked_504 ?_
              refine lv_if_ne (tgt := 512) hx hb dL_isAsked_505 (by decide) (fun h => ?_) (fun h => ?_)
              · rw [if_neg (fun q => h (zl_cmp.mpr q))] at hf
                refine lv_iconst (v := 0) hx hb dL_isAsked_512 (by decide) ?_
                rw [← (Option.some.inj hf)]
                refine W.widen (k := 2) (n := 9) (Nat.le_of_ble_eq_true rfl) (Nat.le_of_ble_eq_true rfl) ?_
                exact zl_retz (v := false) C hr hw dL_isAsked_513
              · rw [if_pos (zl_cmp.mp h)] at hf
                refine lv_iconst (v := 1) hx hb dL_isAsked_508 (by decide) ?_
                refine lv_goto (tgt := 513) hx hb dL_isAsked_509 (by decide) ?_
                rw [← (Option.some.inj hf)]
                refine W.widen (k := 2) (n := 9) (Nat.le_of_ble_eq_true rfl) (Nat.le_of_ble_eq_true rfl) ?_
                exact zl_retz (v := true) C hr hw dL_isAsked_513
    · rw [if_neg h] at hf
      refine lv_iload hx hb dL_isAsked_305 (lv_at hl 3 rfl) ?_
      refine lv_aload_n hx hb dL_isAsked_307 rfl (lv_at hl 0 rfl) ?_
      refine lv_iload hx hb dL_isAsked_308 (lv_at hl 8 rfl) ?_
      refine lv_bipush (v := 8) hx hb dL_isAsked_310 (by decide) ?_
      obtain ⟨x30, e31, hf⟩ := zz_bo hf
      refine zl_Vi C (As := [.int v14, .int 8]) (rest := [.int v9]) (zc_X8_ofUnit _ _ _ _ e31) (cwV 2 hts gL_isAsked_X8_ofUnit rfl rfl rfl zd_X8_ofUnit ⟨(Nat.le_of_ble_eq_true rfl), (Nat.le_of_ble_eq_true rfl)⟩) hw 0 rfl rfl rfl hl rfl (Nat.le_of_ble_eq_true rfl) dL_isAsked_312 ⟨(Nat.le_of_ble_eq_true rfl), (Nat.le_of_ble_eq_true rfl)⟩ (fun H locs hw => ?_)
      refine lv_iadd hx hb dL_isAsked_315 ?_
      refine lv_topi (fun w32 e32 => ?_)
      replace hf := zz_vi hf e32
      refine lv_istore (lv' := [(9, .int w32), (0, .ref (q 0)), (1, .ref (a1)), (2, .long v2), (10, .int v10), (11, .int v11), (12, .int v12), (13, .ref (a13)), (14, .int v14)]) hx hb dL_isAsked_316 hl (by decide) rfl (fun ls hl => ?_)
      refine lv_iload hx hb dL_isAsked_318 (lv_at hl 4 rfl) ?_
      refine lv_aload_n hx hb dL_isAsked_320 rfl (lv_at hl 1 rfl) ?_
      refine lv_iload hx hb dL_isAsked_321 (lv_at hl 8 rfl) ?_
      refine lv_bipush (v := 11) hx hb dL_isAsked_323 (by decide) ?_
      obtain ⟨x33, e34, hf⟩ := zz_bo hf
      refine zl_Vi C (As := [.int v14, .int 11]) (rest := [.int v10]) (zc_X8_ofUnit _ _ _ _ e34) (cwV 2 hts gL_isAsked_X8_ofUnit rfl rfl rfl zd_X8_ofUnit ⟨(Nat.le_of_ble_eq_true rfl), (Nat.le_of_ble_eq_true rfl)⟩) hw 0 rfl rfl rfl hl rfl (Nat.le_of_ble_eq_true rfl) dL_isAsked_325 ⟨(Nat.le_of_ble_eq_true rfl), (Nat.le_of_ble_eq_true rfl)⟩ (fun H locs hw => ?_)
      refine lv_iadd hx hb dL_isAsked_328 ?_
      refine lv_topi (fun w35 e35 => ?_)
      replace hf := zz_vi hf e35
      refine lv_istore (lv' := [(10, .int w35), (9, .int w32), (0, .ref (q 0)), (1, .ref (a1)), (2, .long v2), (11, .int v11), (12, .int v12), (13, .ref (a13)), (14, .int v14)]) hx hb dL_isAsked_329 hl (by decide) rfl (fun ls hl => ?_)
      refine lv_iload hx hb dL_isAsked_331 (lv_at hl 5 rfl) ?_
      refine lv_aload_n hx hb dL_isAsked_333 rfl (lv_at hl 2 rfl) ?_
      refine lv_iload hx hb dL_isAsked_334 (lv_at hl 8 rfl) ?_
      refine lv_bipush (v := 9) hx hb dL_isAsked_336 (by decide) ?_
      obtain ⟨x36, e37, hf⟩ := zz_bo hf
      refine zl_Vi C (As := [.int v14, .int 9]) (rest := [.int v11]) (zc_X8_ofUnit _ _ _ _ e37) (cwV 2 hts gL_isAsked_X8_ofUnit rfl rfl rfl zd_X8_ofUnit ⟨(Nat.le_of_ble_eq_true rfl), (Nat.le_of_ble_eq_true rfl)⟩) hw 0 rfl rfl rfl hl rfl (Nat.le_of_ble_eq_true rfl) dL_isAsked_338 ⟨(Nat.le_of_ble_eq_true rfl), (Nat.le_of_ble_eq_true rfl)⟩ (fun H locs hw => ?_)
      refine lv_iadd hx hb dL_isAsked_341 ?_
      refine lv_topi (fun w38 e38 => ?_)
      replace hf := zz_vi hf e38
      refine lv_istore (lv' := [(11, .int w38), (10, .int w35), (9, .int w32), (0, .ref (q 0)), (1, .ref (a1)), (2, .long v2), (12, .int v12), (13, .ref (a13)), (14, .int v14)]) hx hb dL_isAsked_342 hl (by decide) rfl (fun ls hl => ?_)
      refine lv_iload hx hb dL_isAsked_344 (lv_at hl 6 rfl) ?_
      refine lv_aload hx hb dL_isAsked_346 (lv_at hl 7 rfl) ?_
      refine lv_aload_n hx hb dL_isAsked_348 rfl (lv_at hl 4 rfl) ?_
      refine lv_iload hx hb dL_isAsked_349 (lv_at hl 8 rfl) ?_
      by_cases hg351 : 0 ≤ v14 ∧ v14 < 6
      · rw [if_pos hg351] at hf
        refine zl_gld C hw hk1 hkA (zl_in hg351 (by decide)) dL_isAsked_351 ?_
        by_cases hg352 : 0 ≤ (f1 v14.toNatClampNeg) ∧ (f1 v14.toNatClampNeg) < 5
        · rw [if_pos hg352] at hf
          refine zl_ild C hw 1 rfl (zl_in hg352 (by decide)) dL_isAsked_352 ?_
          refine lv_aload_n hx hb dL_isAsked_353 rfl (lv_at hl 3 rfl) ?_
          refine lv_iload hx hb dL_isAsked_354 (lv_at hl 8 rfl) ?_
          refine lv_bipush (v := 9) hx hb dL_isAsked_356 (by decide) ?_
          obtain ⟨x39, e40, hf⟩ := zz_bo hf
          refine zl_Vi C (As := [.int v14, .int 9]) (rest := [.int (f13 (f1 v14.toNatClampNeg).toNatClampNeg), .int v12]) (zc_X8_ofUnit _ _ _ _ e40) (cwV 2 hts gL_isAsked_X8_ofUnit rfl rfl rfl zd_X8_ofUnit ⟨(Nat.le_of_ble_eq_true rfl), (Nat.le_of_ble_eq_true rfl)⟩) hw 0 rfl rfl rfl hl rfl (Nat.le_of_ble_eq_true rfl) dL_isAsked_358 ⟨(Nat.le_of_ble_eq_true rfl), (Nat.le_of_ble_eq_true rfl)⟩ (fun H locs hw => ?_)
          refine lv_imul hx hb dL_isAsked_361 ?_
          refine lv_iadd hx hb dL_isAsked_362 ?_
          refine lv_topi (fun w41 e41 => ?_)
          replace hf := zz_vi hf e41
          refine lv_istore (lv' := [(12, .int w41), (11, .int w38), (10, .int w35), (9, .int w32), (0, .ref (q 0)), (1, .ref (a1)), (2, .long v2), (13, .ref (a13)), (14, .int v14)]) hx hb dL_isAsked_363 hl (by decide) rfl (fun ls hl => ?_)
          refine lv_aload_n hx hb dL_isAsked_365 rfl (lv_at hl 4 rfl) ?_
          refine lv_iload hx hb dL_isAsked_366 (lv_at hl 8 rfl) ?_
          refine lv_bipush (v := 7) hx hb dL_isAsked_368 (by decide) ?_
          obtain ⟨x42, e43, hf⟩ := zz_bo hf
          refine zl_Vi C (As := [.int v14, .int 7]) (rest := []) (zc_X8_ofUnit _ _ _ _ e43) (cwV 2 hts gL_isAsked_X8_ofUnit rfl rfl rfl zd_X8_ofUnit ⟨(Nat.le_of_ble_eq_true rfl), (Nat.le_of_ble_eq_true rfl)⟩) hw 0 rfl rfl rfl hl rfl (Nat.le_of_ble_eq_true rfl) dL_isAsked_370 ⟨(Nat.le_of_ble_eq_true rfl), (Nat.le_of_ble_eq_true rfl)⟩ (fun H locs hw => ?_)
          refine lv_aload_n hx hb dL_isAsked_373 rfl (lv_at hl 4 rfl) ?_
          refine lv_iload hx hb dL_isAsked_374 (lv_at hl 8 rfl) ?_
          refine lv_iconst (v := 1) hx hb dL_isAsked_376 (by decide) ?_
          obtain ⟨x44, e45, hf⟩ := zz_bo hf
          refine zl_Vi C (As := [.int v14, .int 1]) (rest := [.int x42]) (zc_X8_ofUnit _ _ _ _ e45) (cwV 2 hts gL_isAsked_X8_ofUnit rfl rfl rfl zd_X8_ofUnit ⟨(Nat.le_of_ble_eq_true rfl), (Nat.le_of_ble_eq_true rfl)⟩) hw 0 rfl rfl rfl hl rfl (Nat.le_of_ble_eq_true rfl) dL_isAsked_377 ⟨(Nat.le_of_ble_eq_true rfl), (Nat.le_of_ble_eq_true rfl)⟩ (fun H locs hw => ?_)
          refine lv_icmp_ge (tgt := 410) hx hb dL_isAsked_380 (by decide) (fun h => ?_) (fun h => ?_)
          · rw [if_pos h] at hf
            refine lv_iinc (v := (v14 + 1)) (lv' := [(14, .int (v14 + 1)), (12, .int w41), (11, .int w38), (10, .int w35), (9, .int w32), (0, .ref (q 0)), (1, .ref (a1)), (2, .long v2), (13, .ref (a13))]) hx hb dL_isAsked_410 hl (k := 8) rfl (congrArg (fun z => v14 + z) (by decide)) (by decide) rfl (fun ls hl => ?_)
            refine lv_goto (tgt := 298) hx hb dL_isAsked_413 (by decide) ?_
            refine W.widen (k := 2) (n := 9) (Nat.le_of_ble_eq_true rfl) (Nat.le_of_ble_eq_true rfl) ?_
            exact ih _ _ _ _ _ _ _ _ _ _ _ _ _ _ _ hf hw (lv_sub hl [5, 6, 7, 4, 3, 2, 1, 8, 0] rfl)
          · rw [if_neg h] at hf
            refine lv_aload_n hx hb dL_isAsked_383 rfl (lv_at hl 4 rfl) ?_
            refine lv_iload hx hb dL_isAsked_384 (lv_at hl 8 rfl) ?_
            refine lv_iconst (v := 4) hx hb dL_isAsked_386 (by decide) ?_
            obtain ⟨x46, e47, hf⟩ := zz_bo hf
            refine zl_Vi C (As := [.int v14, .int 4]) (rest := []) (zc_X8_ofUnit _ _ _ _ e47) (cwV 2 hts gL_isAsked_X8_ofUnit rfl rfl rfl zd_X8_ofUnit ⟨(Nat.le_of_ble_eq_true rfl), (Nat.le_of_ble_eq_true rfl)⟩) hw 0 rfl rfl rfl hl rfl (Nat.le_of_ble_eq_true rfl) dL_isAsked_387 ⟨(Nat.le_of_ble_eq_true rfl), (Nat.le_of_ble_eq_true rfl)⟩ (fun H locs hw => ?_)
            refine lv_iconst (v := 3) hx hb dL_isAsked_390 (by decide) ?_
            refine lv_icmp_eq (tgt := 410) hx hb dL_isAsked_391 (by decide) (fun h => ?_) (fun h => ?_)
            · rw [if_pos h] at hf
              refine lv_iinc (v := (v14 + 1)) (lv' := [(14, .int (v14 + 1)), (12, .int w41), (11, .int w38), (10, .int w35), (9, .int w32), (0, .ref (q 0)), (1, .ref (a1)), (2, .long v2), (13, .ref (a13))]) hx hb dL_isAsked_410 hl (k := 8) rfl (congrArg (fun z => v14 + z) (by decide)) (by decide) rfl (fun ls hl => ?_)
              refine lv_goto (tgt := 298) hx hb dL_isAsked_413 (by decide) ?_
              refine W.widen (k := 2) (n := 9) (Nat.le_of_ble_eq_true rfl) (Nat.le_of_ble_eq_true rfl) ?_
              exact ih _ _ _ _ _ _ _ _ _ _ _ _ _ _ _ hf hw (lv_sub hl [5, 6, 7, 4, 3, 2, 1, 8, 0] rfl)
            · rw [if_neg h] at hf
              refine lv_aload_n hx hb dL_isAsked_394 rfl (lv_at hl 4 rfl) ?_
              refine lv_iload hx hb dL_isAsked_395 (lv_at hl 8 rfl) ?_
              refine lv_sipush (v := 2880) hx hb dL_isAsked_397 (by decide) ?_
              obtain ⟨x48, e49, hf⟩ := zz_bo hf
              refine zl_Vi C (As := [.int v14, .int 2880]) (rest := []) (zc_X8_could _ _ _ _ e49) (cwV 2 hts gL_isAsked_X8_could rfl rfl rfl zd_X8_could ⟨(Nat.le_of_ble_eq_true rfl), (Nat.le_of_ble_eq_true rfl)⟩) hw 0 rfl rfl rfl hl rfl (Nat.le_of_ble_eq_true rfl) dL_isAsked_400 ⟨(Nat.le_of_ble_eq_true rfl), (Nat.le_of_ble_eq_true rfl)⟩ (fun H locs hw => ?_)
              refine lv_bipush (v := (-20)) hx hb dL_isAsked_403 (by decide) ?_
              refine lv_icmp_ge (tgt := 410) hx hb dL_isAsked_405 (by decide) (fun h => ?_) (fun h => ?_)
              · rw [if_pos h] at hf
                refine lv_iinc (v := (v14 + 1)) (lv' := [(14, .int (v14 + 1)), (12, .int w41), (11, .int w38), (10, .int w35), (9, .int w32), (0, .ref (q 0)), (1, .ref (a1)), (2, .long v2), (13, .ref (a13))]) hx hb dL_isAsked_410 hl (k := 8) rfl (congrArg (fun z => v14 + z) (by decide)) (by decide) rfl (fun ls hl => ?_)
                refine lv_goto (tgt := 298) hx hb dL_isAsked_413 (by decide) ?_
                refine W.widen (k := 2) (n := 9) (Nat.le_of_ble_eq_true rfl) (Nat.le_of_ble_eq_true rfl) ?_
                exact ih _ _ _ _ _ _ _ _ _ _ _ _ _ _ _ hf hw (lv_sub hl [5, 6, 7, 4, 3, 2, 1, 8, 0] rfl)
              · rw [if_neg h] at hf
                refine lv_iconst (v := 0) hx hb dL_isAsked_408 (by decide) ?_
                rw [← (Option.some.inj hf)]
                refine W.widen (k := 2) (n := 9) (Nat.le_of_ble_eq_true rfl) (Nat.le_of_ble_eq_true rfl) ?_
                exact zl_retz (v := false) C hr hw dL_isAsked_409
        · rw [if_neg hg352] at hf
          cases hf
      · rw [if_neg hg351] at hf
        cases hf
def zL_isAsked_172 (f1 : Nat → Int32) : Nat → Int64 → Int32 → Int32 → Int32 → Int32 → Int32 → (Nat → Int32) → zz_T → Option (Bool × zz_T)
  | 0, _, _, _, _, _, _, _, _ => none
  | n + 1, v2, v5, v6, v7, v8, v9, f4, st =>
    if 8 ≤ v9 then
      if v5 = ((f4 (0 : Int32).toNatClampNeg) + (f4 (2 : Int32).toNatClampNeg)) then
        if v8 = (f4 (2 : Int32).toNatClampNeg) then
          if v6 = (f4 (1 : Int32).toNatClampNeg) then
            (zX8_many 6 st).bind fun x7 =>
            if (f4 (3 : Int32).toNatClampNeg) = x7 then
              if ((v7 + v5) + v6) ≤ 24 then
                zL_isAsked_298 f1 zz_N v2 0 0 0 0 0 f4 (upd (upd (upd (upd (upd (fun _ => 0) (0 : Int32).toNatClampNeg 1) (1 : Int32).toNatClampNeg 4) (2 : Int32).toNatClampNeg 3) (3 : Int32).toNatClampNeg 6) (4 : Int32).toNatClampNeg 0) st
              else
                some (false, st)
            else
              some (false, st)
          else
            some (false, st)
        else
          some (false, st)
      else
        some (false, st)
    else
      (zX8_ofLine v9 5 st).bind fun x50 =>
      zz_v (v6 + x50) fun w52 =>
      zL_isAsked_172 f1 n v2 v5 w52 v7 v8 (v9 + 1) f4 st
set_option maxHeartbeats 4000000 in
set_option maxRecDepth 100000 in
theorem zt_L_isAsked_172 {p : Program} {l : Launch} {e : Env} {s : State} {m : MethodId} {args : Array Value} {below : List Frame} {meth : Method} {c : Code} {A : Nat → Prop} {D : va_G} {cI : ClassId} {q : Nat → Nat} (C : zl_C A D cI p s m args meth c cL_isAsked 15 wsL_isAsked yL_isAsked.cls) (hr : meth.sig.returnType = some .boolean) (a1 : Nat) (f1 : Nat → Int32) (hk1 : va_P D vwCl [(a1, .inl (cI, 6, .inl f1))] s.heap) (hkA : ¬ A a1) : ∀ (n : Nat) (v2 : Int64) (v5 : Int32) (v6 : Int32) (v7 : Int32) (v8 : Int32) (v9 : Int32) (f4 : (Nat → Int32)) (a4 : Nat) (st : zz_T) (H : Heap) (locs : List Loc) (ls : Array Slot) (r : (Bool × zz_T)), zL_isAsked_172 f1 n v2 v5 v6 v7 v8 v9 f4 st = some r → zl_W A D cI q [(a4, .inl (cI, 4, .inl f4))] st s.heap H locs → lv_has ls 15 [(0, .ref (q 0)), (1, .ref (a1)), (2, .long v2), (4, .ref (a4)), (5, .int v5), (6, .int v6), (7, .int v7), (8, .int v8), (9, .int v9)] → W p l e zr_L_isAsked s m args below meth c H locs 1 4 (MQ below (va_Qi (fun (x : Int32) (u : zz_T) => x = zz_b r.1 ∧ u = r.2) (fun u t => zz_B A D cI q u t) A) args s 2 9 A) (F0 m 172 ls []) := by
  obtain ⟨hx, hb, hml, hown, hts⟩ := id C.1
  intro n
  induction n with
  | zero => intro v2 v5 v6 v7 v8 v9 f4 a4 st H locs ls r hf; cases hf
  | succ n ih =>
    intro v2 v5 v6 v7 v8 v9 f4 a4 st H locs ls r hf hw hl
    rw [zL_isAsked_172] at hf
    refine lv_iload hx hb dL_isAsked_172 (lv_at hl 8 rfl) ?_
    refine lv_bipush (v := 8) hx hb dL_isAsked_174 (by decide) ?_
    refine lv_icmp_ge (tgt := 197) hx hb dL_isAsked_176 (by decide) (fun h => ?_) (fun h => ?_)
    · rw [if_pos h] at hf
      refine lv_iload hx hb dL_isAsked_197 (lv_at hl 4 rfl) ?_
      refine lv_aload hx hb dL_isAsked_199 (lv_at hl 3 rfl) ?_
      refine lv_iconst (v := 0) hx hb dL_isAsked_201 (by decide) ?_
      refine zl_ild C hw 0 rfl (by unfold vp_in; decide) dL_isAsked_202 ?_
      refine lv_aload hx hb dL_isAsked_203 (lv_at hl 3 rfl) ?_
      refine lv_iconst (v := 2) hx hb dL_isAsked_205 (by decide) ?_
      refine zl_ild C hw 0 rfl (by unfold vp_in; decide) dL_isAsked_206 ?_
      refine lv_iadd hx hb dL_isAsked_207 ?_
      refine lv_icmp_ne (tgt := 255) hx hb dL_isAsked_208 (by decide) (fun h => ?_) (fun h => ?_)
      · rw [if_neg h] at hf
        refine lv_iconst (v := 0) hx hb dL_isAsked_255 (by decide) ?_
        rw [← (Option.some.inj hf)]
        refine W.widen (k := 2) (n := 9) (Nat.le_of_ble_eq_true rfl) (Nat.le_of_ble_eq_true rfl) ?_
        exact zl_retz (v := false) C hr hw dL_isAsked_256
      · rw [if_pos h] at hf
        refine lv_iload hx hb dL_isAsked_211 (lv_at hl 7 rfl) ?_
        refine lv_aload hx hb dL_isAsked_213 (lv_at hl 3 rfl) ?_
        refine lv_iconst (v := 2) hx hb dL_isAsked_215 (by decide) ?_
        refine zl_ild C hw 0 rfl (by unfold vp_in; decide) dL_isAsked_216 ?_
        refine lv_icmp_ne (tgt := 255) hx hb dL_isAsked_217 (by decide) (fun h => ?_) (fun h => ?_)
        · rw [if_neg h] at hf
          refine lv_iconst (v := 0) hx hb dL_isAsked_255 (by decide) ?_
          rw [← (Option.some.inj hf)]
          refine W.widen (k := 2) (n := 9) (Nat.le_of_ble_eq_true rfl) (Nat.le_of_ble_eq_true rfl) ?_
          exact zl_retz (v := false) C hr hw dL_isAsked_256
        · rw [if_pos h] at hf
          refine lv_iload hx hb dL_isAsked_220 (lv_at hl 5 rfl) ?_
          refine lv_aload hx hb dL_isAsked_222 (lv_at hl 3 rfl) ?_
          refine lv_iconst (v := 1) hx hb dL_isAsked_224 (by decide) ?_
          refine zl_ild C hw 0 rfl (by unfold vp_in; decide) dL_isAsked_225 ?_
          refine lv_icmp_ne (tgt := 255) hx hb dL_isAsked_226 (by decide) (fun h => ?_) (fun h => ?_)
          · rw [if_neg h] at hf
            refine lv_iconst (v := 0) hx hb dL_isAsked_255 (by decide) ?_
            rw [← (Option.some.inj hf)]
            refine W.widen (k := 2) (n := 9) (Nat.le_of_ble_eq_true rfl) (Nat.le_of_ble_eq_true rfl) ?_
            exact zl_retz (v := false) C hr hw dL_isAsked_256
          · rw [if_pos h] at hf
            refine lv_aload hx hb dL_isAsked_229 (lv_at hl 3 rfl) ?_
            refine lv_iconst (v := 3) hx hb dL_isAsked_231 (by decide) ?_
            refine zl_ild C hw 0 rfl (by unfold vp_in; decide) dL_isAsked_232 ?_
            refine lv_aload_n hx hb dL_isAsked_233 rfl (lv_at hl 0 rfl) ?_
            refine lv_bipush (v := 6) hx hb dL_isAsked_234 (by decide) ?_
            obtain ⟨x7, e8, hf⟩ := zz_bo hf
            refine zl_Vi C (As := [.int 6]) (rest := [.int (f4 (3 : Int32).toNatClampNeg)]) (zc_X8_many _ _ _ e8) (cwV 1 hts gL_isAsked_X8_many rfl rfl rfl zd_X8_many ⟨(Nat.le_of_ble_eq_true rfl), (Nat.le_of_ble_eq_true rfl)⟩) hw 0 rfl rfl rfl hl rfl (Nat.le_of_ble_eq_true rfl) dL_isAsked_236 ⟨(Nat.le_of_ble_eq_true rfl), (Nat.le_of_ble_eq_true rfl)⟩ (fun H locs hw => ?_)
            refine lv_icmp_ne (tgt := 255) hx hb dL_isAsked_239 (by decide) (fun h => ?_) (fun h => ?_)
            · rw [if_neg h] at hf
              refine lv_iconst (v := 0) hx hb dL_isAsked_255 (by decide) ?_
              rw [← (Option.some.inj hf)]
              refine W.widen (k := 2) (n := 9) (Nat.le_of_ble_eq_true rfl) (Nat.le_of_ble_eq_true rfl) ?_
              exact zl_retz (v := false) C hr hw dL_isAsked_256
            · rw [if_pos h] at hf
              refine lv_iload hx hb dL_isAsked_242 (lv_at hl 6 rfl) ?_
              refine lv_iload hx hb dL_isAsked_244 (lv_at hl 4 rfl) ?_
              refine lv_iadd hx hb dL_isAsked_246 ?_
              refine lv_iload hx hb dL_isAsked_247 (lv_at hl 5 rfl) ?_
              refine lv_iadd hx hb dL_isAsked_249 ?_
              refine lv_bipush (v := 24) hx hb dL_isAsked_250 (by decide) ?_
              refine lv_icmp_le (tgt := 257) hx hb dL_isAsked_252 (by decide) (fun h => ?_) (fun h => ?_)
              · rw [if_pos h] at hf
                refine lv_iconst (v := 0) hx hb dL_isAsked_257 (by decide) ?_
                refine lv_istore (lv' := [(9, .int 0), (0, .ref (q 0)), (1, .ref (a1)), (2, .long v2), (4, .ref (a4)), (5, .int v5), (6, .int v6), (7, .int v7), (8, .int v8)]) hx hb dL_isAsked_258 hl (by decide) rfl (fun ls hl => ?_)
                refine lv_iconst (v := 0) hx hb dL_isAsked_260 (by decide) ?_
                refine lv_istore (lv' := [(10, .int 0), (9, .int 0), (0, .ref (q 0)), (1, .ref (a1)), (2, .long v2), (4, .ref (a4)), (5, .int v5), (6, .int v6), (7, .int v7), (8, .int v8)]) hx hb dL_isAsked_261 hl (by decide) rfl (fun ls hl => ?_)
                refine lv_iconst (v := 0) hx hb dL_isAsked_263 (by decide) ?_
                refine lv_istore (lv' := [(11, .int 0), (10, .int 0), (9, .int 0), (0, .ref (q 0)), (1, .ref (a1)), (2, .long v2), (4, .ref (a4)), (5, .int v5), (6, .int v6), (7, .int v7), (8, .int v8)]) hx hb dL_isAsked_264 hl (by decide) rfl (fun ls hl => ?_)
                refine lv_iconst (v := 0) hx hb dL_isAsked_266 (by decide) ?_
                refine lv_istore (lv' := [(12, .int 0), (11, .int 0), (10, .int 0), (9, .int 0), (0, .ref (q 0)), (1, .ref (a1)), (2, .long v2), (4, .ref (a4)), (5, .int v5), (6, .int v6), (7, .int v7), (8, .int v8)]) hx hb dL_isAsked_267 hl (by decide) rfl (fun ls hl => ?_)
                refine lv_iconst (v := 5) hx hb dL_isAsked_269 (by decide) ?_
                refine zl_new (N := 5) C (by decide +kernel) hw (by decide) (by decide) (by decide) (Nat.le_of_ble_eq_true rfl) (Nat.le_of_ble_eq_true rfl) dL_isAsked_270 (fun a13 H hw => ?_)
                have hw : zl_W A D cI q [(a4, .inl (cI, 4, .inl f4)), (a13, .inl (cI, 5, .inl (fun _ => 0)))] st s.heap H locs := hw
                refine lv_dup hx hb dL_isAsked_272 rfl ?_
                refine lv_iconst (v := 0) hx hb dL_isAsked_273 (by decide) ?_
                refine lv_iconst (v := 1) hx hb dL_isAsked_274 (by decide) ?_
                refine zl_ist C hw 1 rfl (by unfold vp_in; decide) dL_isAsked_275 (fun H locs hw => ?_)
                have hw : zl_W A D cI q [(a4, .inl (cI, 4, .inl f4)), (a13, .inl (cI, 5, .inl (upd (fun _ => 0) (0 : Int32).toNatClampNeg 1)))] st s.heap H locs := hw
                refine lv_dup hx hb dL_isAsked_276 rfl ?_
                refine lv_iconst (v := 1) hx hb dL_isAsked_277 (by decide) ?_
                refine lv_iconst (v := 4) hx hb dL_isAsked_278 (by decide) ?_
                refine zl_ist C hw 1 rfl (by unfold vp_in; decide) dL_isAsked_279 (fun H locs hw => ?_)
                have hw : zl_W A D cI q [(a4, .inl (cI, 4, .inl f4)), (a13, .inl (cI, 5, .inl (upd (upd (fun _ => 0) (0 : Int32).toNatClampNeg 1) (1 : Int32).toNatClampNeg 4)))] st s.heap H locs := hw
                refine lv_dup hx hb dL_isAsked_280 rfl ?_
                refine lv_iconst (v := 2) hx hb dL_isAsked_281 (by decide) ?_
                refine lv_iconst (v := 3) hx hb dL_isAsked_282 (by decide) ?_
                refine zl_ist C hw 1 rfl (by unfold vp_in; decide) dL_isAsked_283 (fun H locs hw => ?_)
                have hw : zl_W A D cI q [(a4, .inl (cI, 4, .inl f4)), (a13, .inl (cI, 5, .inl (upd (upd (upd (fun _ => 0) (0 : Int32).toNatClampNeg 1) (1 : Int32).toNatClampNeg 4) (2 : Int32).toNatClampNeg 3)))] st s.heap H locs := hw
                refine lv_dup hx hb dL_isAsked_284 rfl ?_
                refine lv_iconst (v := 3) hx hb dL_isAsked_285 (by decide) ?_
                refine lv_bipush (v := 6) hx hb dL_isAsked_286 (by decide) ?_
                refine zl_ist C hw 1 rfl (by unfold vp_in; decide) dL_isAsked_288 (fun H locs hw => ?_)
                have hw : zl_W A D cI q [(a4, .inl (cI, 4, .inl f4)), (a13, .inl (cI, 5, .inl (upd (upd (upd (upd (fun _ => 0) (0 : Int32).toNatClampNeg 1) (1 : Int32).toNatClampNeg 4) (2 : Int32).toNatClampNeg 3) (3 : Int32).toNatClampNeg 6)))] st s.heap H locs := hw
                refine lv_dup hx hb dL_isAsked_289 rfl ?_
                refine lv_iconst (v := 4) hx hb dL_isAsked_290 (by decide) ?_
                refine lv_iconst (v := 0) hx hb dL_isAsked_291 (by decide) ?_
                refine zl_ist C hw 1 rfl (by unfold vp_in; decide) dL_isAsked_292 (fun H locs hw => ?_)
                have hw : zl_W A D cI q [(a4, .inl (cI, 4, .inl f4)), (a13, .inl (cI, 5, .inl (upd (upd (upd (upd (upd (fun _ => 0) (0 : Int32).toNatClampNeg 1) (1 : Int32).toNatClampNeg 4) (2 : Int32).toNatClampNeg 3) (3 : Int32).toNatClampNeg 6) (4 : Int32).toNatClampNeg 0)))] st s.heap H locs := hw
                refine lv_astore (lv' := [(13, .ref (a13)), (12, .int 0), (11, .int 0), (10, .int 0), (9, .int 0), (0, .ref (q 0)), (1, .ref (a1)), (2, .long v2), (4, .ref (a4)), (5, .int v5), (6, .int v6), (7, .int v7), (8, .int v8)]) hx hb dL_isAsked_293 hl (by decide) rfl (fun ls hl => ?_)
                refine lv_iconst (v := 0) hx hb dL_isAsked_295 (by decide) ?_
                refine lv_istore (lv' := [(14, .int 0), (13, .ref (a13)), (12, .int 0), (11, .int 0), (10, .int 0), (9, .int 0), (0, .ref (q 0)), (1, .ref (a1)), (2, .long v2), (4, .ref (a4)), (5, .int v5), (6, .int v6), (7, .int v7), (8, .int v8)]) hx hb dL_isAsked_296 hl (by decide) rfl (fun ls hl => ?_)
                refine W.widen (k := 2) (n := 9) (Nat.le_of_ble_eq_true rfl) (Nat.le_of_ble_eq_true rfl) ?_
                exact zt_L_isAsked_298 C hr a1 f1 hk1 hkA zz_N _ _ _ _ _ _ _ _ _ _ _ _ _ _ _ hf hw (lv_sub hl [6, 7, 8, 5, 4, 3, 2, 1, 0] rfl)
              · rw [if_neg h] at hf
                refine lv_iconst (v := 0) hx hb dL_isAsked_255 (by decide) ?_
                rw [← (Option.some.inj hf)]
                refine W.widen (k := 2) (n := 9) (Nat.le_of_ble_eq_true rfl) (Nat.le_of_ble_eq_true rfl) ?_
                exact zl_retz (v := false) C hr hw dL_isAsked_256
    · rw [if_neg h] at hf
      refine lv_iload hx hb dL_isAsked_179 (lv_at hl 5 rfl) ?_
      refine lv_aload_n hx hb dL_isAsked_181 rfl (lv_at hl 0 rfl) ?_
      refine lv_iload hx hb dL_isAsked_182 (lv_at hl 8 rfl) ?_
      refine lv_iconst (v := 5) hx hb dL_isAsked_184 (by decide) ?_
      obtain ⟨x50, e51, hf⟩ := zz_bo hf
      refine zl_Vi C (As := [.int v9, .int 5]) (rest := [.int v6]) (zc_X8_ofLine _ _ _ _ e51) (cwV 2 hts gL_isAsked_X8_ofLine rfl rfl rfl zd_X8_ofLine ⟨(Nat.le_of_ble_eq_true rfl), (Nat.le_of_ble_eq_true rfl)⟩) hw 0 rfl rfl rfl hl rfl (Nat.le_of_ble_eq_true rfl) dL_isAsked_185 ⟨(Nat.le_of_ble_eq_true rfl), (Nat.le_of_ble_eq_true rfl)⟩ (fun H locs hw => ?_)
      refine lv_iadd hx hb dL_isAsked_188 ?_
      refine lv_topi (fun w52 e52 => ?_)
      replace hf := zz_vi hf e52
      refine lv_istore (lv' := [(6, .int w52), (0, .ref (q 0)), (1, .ref (a1)), (2, .long v2), (4, .ref (a4)), (5, .int v5), (7, .int v7), (8, .int v8), (9, .int v9)]) hx hb dL_isAsked_189 hl (by decide) rfl (fun ls hl => ?_)
      refine lv_iinc (v := (v9 + 1)) (lv' := [(9, .int (v9 + 1)), (6, .int w52), (0, .ref (q 0)), (1, .ref (a1)), (2, .long v2), (4, .ref (a4)), (5, .int v5), (7, .int v7), (8, .int v8)]) hx hb dL_isAsked_191 hl (k := 8) rfl (congrArg (fun z => v9 + z) (by decide)) (by decide) rfl (fun ls hl => ?_)
      refine lv_goto (tgt := 172) hx hb dL_isAsked_194 (by decide) ?_
      refine W.widen (k := 1) (n := 4) (Nat.le_of_ble_eq_true rfl) (Nat.le_of_ble_eq_true rfl) ?_
      exact ih _ _ _ _ _ _ _ _ _ _ _ _ _ hf hw (lv_sub hl [2, 3, 4, 5, 6, 1, 7, 8, 0] rfl)
def zL_isAsked_120 (f1 : Nat → Int32) : Nat → Int64 → Int32 → Int32 → Int32 → Int32 → (Nat → Int32) → zz_T → Option (Bool × zz_T)
  | 0, _, _, _, _, _, _, _ => none
  | n + 1, v2, v5, v7, v8, v9, f4, st =>
    if 6 ≤ v9 then
      zL_isAsked_172 f1 zz_N v2 v5 0 v7 v8 0 f4 st
    else
      (zX8_ofStation v9 4 st).bind fun x53 =>
      zz_v (v5 + x53) fun w55 =>
      (zX8_ofStation v9 5 st).bind fun x56 =>
      zz_v (v8 + x56) fun w58 =>
      (zX8_ofStation v9 2 st).bind fun x59 =>
      zz_v (v7 + x59) fun w61 =>
      zL_isAsked_120 f1 n v2 w55 w61 w58 (v9 + 1) f4 st
set_option maxHeartbeats 4000000 in
set_option maxRecDepth 100000 in
theorem zt_L_isAsked_120 {p : Program} {l : Launch} {e : Env} {s : State} {m : MethodId} {args : Array Value} {below : List Frame} {meth : Method} {c : Code} {A : Nat → Prop} {D : va_G} {cI : ClassId} {q : Nat → Nat} (C : zl_C A D cI p s m args meth c cL_isAsked 15 wsL_isAsked yL_isAsked.cls) (hr : meth.sig.returnType = some .boolean) (a1 : Nat) (f1 : Nat → Int32) (hk1 : va_P D vwCl [(a1, .inl (cI, 6, .inl f1))] s.heap) (hkA : ¬ A a1) : ∀ (n : Nat) (v2 : Int64) (v5 : Int32) (v7 : Int32) (v8 : Int32) (v9 : Int32) (f4 : (Nat → Int32)) (a4 : Nat) (st : zz_T) (H : Heap) (locs : List Loc) (ls : Array Slot) (r : (Bool × zz_T)), zL_isAsked_120 f1 n v2 v5 v7 v8 v9 f4 st = some r → zl_W A D cI q [(a4, .inl (cI, 4, .inl f4))] st s.heap H locs → lv_has ls 15 [(0, .ref (q 0)), (1, .ref (a1)), (2, .long v2), (4, .ref (a4)), (5, .int v5), (6, .int 0), (7, .int v7), (8, .int v8), (9, .int v9)] → W p l e zr_L_isAsked s m args below meth c H locs 1 4 (MQ below (va_Qi (fun (x : Int32) (u : zz_T) => x = zz_b r.1 ∧ u = r.2) (fun u t => zz_B A D cI q u t) A) args s 2 9 A) (F0 m 120 ls []) := by
  obtain ⟨hx, hb, hml, hown, hts⟩ := id C.1
  intro n
  induction n with
  | zero => intro v2 v5 v7 v8 v9 f4 a4 st H locs ls r hf; cases hf
  | succ n ih =>
    intro v2 v5 v7 v8 v9 f4 a4 st H locs ls r hf hw hl
    rw [zL_isAsked_120] at hf
    refine lv_iload hx hb dL_isAsked_120 (lv_at hl 8 rfl) ?_
    refine lv_bipush (v := 6) hx hb dL_isAsked_122 (by decide) ?_
    refine lv_icmp_ge (tgt := 169) hx hb dL_isAsked_124 (by decide) (fun h => ?_) (fun h => ?_)
    · rw [if_pos h] at hf
      refine lv_iconst (v := 0) hx hb dL_isAsked_169 (by decide) ?_
      refine lv_istore (lv' := [(9, .int 0), (0, .ref (q 0)), (1, .ref (a1)), (2, .long v2), (4, .ref (a4)), (5, .int v5), (6, .int 0), (7, .int v7), (8, .int v8)]) hx hb dL_isAsked_170 hl (by decide) rfl (fun ls hl => ?_)
      refine W.widen (k := 1) (n := 4) (Nat.le_of_ble_eq_true rfl) (Nat.le_of_ble_eq_true rfl) ?_
      exact zt_L_isAsked_172 C hr a1 f1 hk1 hkA zz_N _ _ _ _ _ _ _ _ _ _ _ _ _ hf hw (lv_sub hl [1, 2, 3, 4, 5, 6, 7, 8, 0] rfl)
    · rw [if_neg h] at hf
      refine lv_iload hx hb dL_isAsked_127 (lv_at hl 4 rfl) ?_
      refine lv_aload_n hx hb dL_isAsked_129 rfl (lv_at hl 0 rfl) ?_
      refine lv_iload hx hb dL_isAsked_130 (lv_at hl 8 rfl) ?_
      refine lv_iconst (v := 4) hx hb dL_isAsked_132 (by decide) ?_
      obtain ⟨x53, e54, hf⟩ := zz_bo hf
      refine zl_Vi C (As := [.int v9, .int 4]) (rest := [.int v5]) (zc_X8_ofStation _ _ _ _ e54) (cwV 2 hts gL_isAsked_X8_ofStation rfl rfl rfl zd_X8_ofStation ⟨(Nat.le_of_ble_eq_true rfl), (Nat.le_of_ble_eq_true rfl)⟩) hw 0 rfl rfl rfl hl rfl (Nat.le_of_ble_eq_true rfl) dL_isAsked_133 ⟨(Nat.le_of_ble_eq_true rfl), (Nat.le_of_ble_eq_true rfl)⟩ (fun H locs hw => ?_)
      refine lv_iadd hx hb dL_isAsked_136 ?_
      refine lv_topi (fun w55 e55 => ?_)
      replace hf := zz_vi hf e55
      refine lv_istore (lv' := [(5, .int w55), (0, .ref (q 0)), (1, .ref (a1)), (2, .long v2), (4, .ref (a4)), (6, .int 0), (7, .int v7), (8, .int v8), (9, .int v9)]) hx hb dL_isAsked_137 hl (by decide) rfl (fun ls hl => ?_)
      refine lv_iload hx hb dL_isAsked_139 (lv_at hl 7 rfl) ?_
      refine lv_aload_n hx hb dL_isAsked_141 rfl (lv_at hl 1 rfl) ?_
      refine lv_iload hx hb dL_isAsked_142 (lv_at hl 8 rfl) ?_
      refine lv_iconst (v := 5) hx hb dL_isAsked_144 (by decide) ?_
      obtain ⟨x56, e57, hf⟩ := zz_bo hf
      refine zl_Vi C (As := [.int v9, .int 5]) (rest := [.int v8]) (zc_X8_ofStation _ _ _ _ e57) (cwV 2 hts gL_isAsked_X8_ofStation rfl rfl rfl zd_X8_ofStation ⟨(Nat.le_of_ble_eq_true rfl), (Nat.le_of_ble_eq_true rfl)⟩) hw 0 rfl rfl rfl hl rfl (Nat.le_of_ble_eq_true rfl) dL_isAsked_145 ⟨(Nat.le_of_ble_eq_true rfl), (Nat.le_of_ble_eq_true rfl)⟩ (fun H locs hw => ?_)
      refine lv_iadd hx hb dL_isAsked_148 ?_
      refine lv_topi (fun w58 e58 => ?_)
      replace hf := zz_vi hf e58
      refine lv_istore (lv' := [(8, .int w58), (5, .int w55), (0, .ref (q 0)), (1, .ref (a1)), (2, .long v2), (4, .ref (a4)), (6, .int 0), (7, .int v7), (9, .int v9)]) hx hb dL_isAsked_149 hl (by decide) rfl (fun ls hl => ?_)
      refine lv_iload hx hb dL_isAsked_151 (lv_at hl 7 rfl) ?_
      refine lv_aload_n hx hb dL_isAsked_153 rfl (lv_at hl 2 rfl) ?_
      refine lv_iload hx hb dL_isAsked_154 (lv_at hl 8 rfl) ?_
      refine lv_iconst (v := 2) hx hb dL_isAsked_156 (by decide) ?_
      obtain ⟨x59, e60, hf⟩ := zz_bo hf
      refine zl_Vi C (As := [.int v9, .int 2]) (rest := [.int v7]) (zc_X8_ofStation _ _ _ _ e60) (cwV 2 hts gL_isAsked_X8_ofStation rfl rfl rfl zd_X8_ofStation ⟨(Nat.le_of_ble_eq_true rfl), (Nat.le_of_ble_eq_true rfl)⟩) hw 0 rfl rfl rfl hl rfl (Nat.le_of_ble_eq_true rfl) dL_isAsked_157 ⟨(Nat.le_of_ble_eq_true rfl), (Nat.le_of_ble_eq_true rfl)⟩ (fun H locs hw => ?_)
      refine lv_iadd hx hb dL_isAsked_160 ?_
      refine lv_topi (fun w61 e61 => ?_)
      replace hf := zz_vi hf e61
      refine lv_istore (lv' := [(7, .int w61), (8, .int w58), (5, .int w55), (0, .ref (q 0)), (1, .ref (a1)), (2, .long v2), (4, .ref (a4)), (6, .int 0), (9, .int v9)]) hx hb dL_isAsked_161 hl (by decide) rfl (fun ls hl => ?_)
      refine lv_iinc (v := (v9 + 1)) (lv' := [(9, .int (v9 + 1)), (7, .int w61), (8, .int w58), (5, .int w55), (0, .ref (q 0)), (1, .ref (a1)), (2, .long v2), (4, .ref (a4)), (6, .int 0)]) hx hb dL_isAsked_163 hl (k := 8) rfl (congrArg (fun z => v9 + z) (by decide)) (by decide) rfl (fun ls hl => ?_)
      refine lv_goto (tgt := 120) hx hb dL_isAsked_166 (by decide) ?_
      refine W.widen (k := 1) (n := 4) (Nat.le_of_ble_eq_true rfl) (Nat.le_of_ble_eq_true rfl) ?_
      exact ih _ _ _ _ _ _ _ _ _ _ _ _ hf hw (lv_sub hl [4, 5, 6, 7, 3, 8, 1, 2, 0] rfl)
def zL_isAsked_91 (f1 : Nat → Int32) (k34 : Int64 → Int32 → (Nat → Int32) → zz_T → Option (Bool × zz_T)) (v2 : Int64) (v9 : Int32) (k0 : Bool) (f4 : (Nat → Int32)) (st : zz_T) : Option (Bool × zz_T) :=
  (zX8_ofTrain v9 4 st).bind fun x70 =>
  if x70 < 0 then
    if (zz_b k0) = 0 then
      k34 v2 (v9 + 1) f4 st
    else
      some (false, st)
  else
    if (zz_b k0) = 1 then
      k34 v2 (v9 + 1) f4 st
    else
      some (false, st)
set_option maxHeartbeats 4000000 in
set_option maxRecDepth 100000 in
theorem zt_L_isAsked_91 {p : Program} {l : Launch} {e : Env} {s : State} {m : MethodId} {args : Array Value} {below : List Frame} {meth : Method} {c : Code} {A : Nat → Prop} {D : va_G} {cI : ClassId} {q : Nat → Nat} (C : zl_C A D cI p s m args meth c cL_isAsked 15 wsL_isAsked yL_isAsked.cls) (hr : meth.sig.returnType = some .boolean) (a1 : Nat) (f1 : Nat → Int32) (hk1 : va_P D vwCl [(a1, .inl (cI, 6, .inl f1))] s.heap) (hkA : ¬ A a1) (k34 : Int64 → Int32 → (Nat → Int32) → zz_T → Option (Bool × zz_T)) (hk34 : ∀ (v2 : Int64) (v9 : Int32) (f4 : (Nat → Int32)) (a4 : Nat) (st : zz_T) (H : Heap) (locs : List Loc) (ls : Array Slot) (r : (Bool × zz_T)), k34 v2 v9 f4 st = some r → zl_W A D cI q [(a4, .inl (cI, 4, .inl f4))] st s.heap H locs → lv_has ls 15 [(0, .ref (q 0)), (1, .ref (a1)), (2, .long v2), (4, .ref (a4)), (5, .int 0), (6, .int 0), (7, .int 0), (8, .int 0), (9, .int v9)] → W p l e zr_L_isAsked s m args below meth c H locs 1 4 (MQ below (va_Qi (fun (x : Int32) (u : zz_T) => x = zz_b r.1 ∧ u = r.2) (fun u t => zz_B A D cI q u t) A) args s 2 9 A) (F0 m 34 ls [])) : ∀ (v2 : Int64) (v9 : Int32) (k0 : Bool) (f4 : (Nat → Int32)) (a4 : Nat) (st : zz_T) (H : Heap) (locs : List Loc) (ls : Array Slot) (r : (Bool × zz_T)), zL_isAsked_91 f1 k34 v2 v9 k0 f4 st = some r → zl_W A D cI q [(a4, .inl (cI, 4, .inl f4))] st s.heap H locs → lv_has ls 15 [(0, .ref (q 0)), (1, .ref (a1)), (2, .long v2), (4, .ref (a4)), (5, .int 0), (6, .int 0), (7, .int 0), (8, .int 0), (9, .int v9)] → W p l e zr_L_isAsked s m args below meth c H locs 1 4 (MQ below (va_Qi (fun (x : Int32) (u : zz_T) => x = zz_b r.1 ∧ u = r.2) (fun u t => zz_B A D cI q u t) A) args s 2 9 A) (F0 m 91 ls [.int (zz_b k0)]) := by
  obtain ⟨hx, hb, hml, hown, hts⟩ := id C.1
  intro v2 v9 k0 f4 a4 st H locs ls r hf hw hl
  rw [zL_isAsked_91] at hf
  refine lv_aload_n hx hb dL_isAsked_91 rfl (lv_at hl 0 rfl) ?_
  refine lv_iload hx hb dL_isAsked_92 (lv_at hl 8 rfl) ?_
  refine lv_iconst (v := 4) hx hb dL_isAsked_94 (by decide) ?_
  obtain ⟨x70, e71, hf⟩ := zz_bo hf
  refine zl_Vi C (As := [.int v9, .int 4]) (rest := [.int (zz_b k0)]) (zc_X8_ofTrain _ _ _ _ e71) (cwV 2 hts gL_isAsked_X8_ofTrain rfl rfl rfl zd_X8_ofTrain ⟨(Nat.le_of_ble_eq_true rfl), (Nat.le_of_ble_eq_true rfl)⟩) hw 0 rfl rfl rfl hl rfl (Nat.le_of_ble_eq_true rfl) dL_isAsked_95 ⟨(Nat.le_of_ble_eq_true rfl), (Nat.le_of_ble_eq_true rfl)⟩ (fun H locs hw => ?_)
  refine lv_if_lt (tgt := 105) hx hb dL_isAsked_98 (by decide) (fun h => ?_) (fun h => ?_)
  · rw [if_pos h] at hf
    refine lv_iconst (v := 0) hx hb dL_isAsked_105 (by decide) ?_
    refine lv_icmp_eq (tgt := 111) hx hb dL_isAsked_106 (by decide) (fun h => ?_) (fun h => ?_)
    · rw [if_pos h] at hf
      refine lv_iinc (v := (v9 + 1)) (lv' := [(9, .int (v9 + 1)), (0, .ref (q 0)), (1, .ref (a1)), (2, .long v2), (4, .ref (a4)), (5, .int 0), (6, .int 0), (7, .int 0), (8, .int 0)]) hx hb dL_isAsked_111 hl (k := 8) rfl (congrArg (fun z => v9 + z) (by decide)) (by decide) rfl (fun ls hl => ?_)
      refine lv_goto (tgt := 34) hx hb dL_isAsked_114 (by decide) ?_
      refine W.widen (k := 1) (n := 4) (Nat.le_of_ble_eq_true rfl) (Nat.le_of_ble_eq_true rfl) ?_
      exact hk34 _ _ _ _ _ _ _ _ _ hf hw (lv_sub hl [1, 2, 3, 4, 5, 6, 7, 8, 0] rfl)
    · rw [if_neg h] at hf
      refine lv_iconst (v := 0) hx hb dL_isAsked_109 (by decide) ?_
      rw [← (Option.some.inj hf)]
      refine W.widen (k := 2) (n := 9) (Nat.le_of_ble_eq_true rfl) (Nat.le_of_ble_eq_true rfl) ?_
      exact zl_retz (v := false) C hr hw dL_isAsked_110
  · rw [if_neg h] at hf
    refine lv_iconst (v := 1) hx hb dL_isAsked_101 (by decide) ?_
    refine lv_goto (tgt := 106) hx hb dL_isAsked_102 (by decide) ?_
    refine lv_icmp_eq (tgt := 111) hx hb dL_isAsked_106 (by decide) (fun h => ?_) (fun h => ?_)
    · rw [if_pos h] at hf
      refine lv_iinc (v := (v9 + 1)) (lv' := [(9, .int (v9 + 1)), (0, .ref (q 0)), (1, .ref (a1)), (2, .long v2), (4, .ref (a4)), (5, .int 0), (6, .int 0), (7, .int 0), (8, .int 0)]) hx hb dL_isAsked_111 hl (k := 8) rfl (congrArg (fun z => v9 + z) (by decide)) (by decide) rfl (fun ls hl => ?_)
      refine lv_goto (tgt := 34) hx hb dL_isAsked_114 (by decide) ?_
      refine W.widen (k := 1) (n := 4) (Nat.le_of_ble_eq_true rfl) (Nat.le_of_ble_eq_true rfl) ?_
      exact hk34 _ _ _ _ _ _ _ _ _ hf hw (lv_sub hl [1, 2, 3, 4, 5, 6, 7, 8, 0] rfl)
    · rw [if_neg h] at hf
      refine lv_iconst (v := 0) hx hb dL_isAsked_109 (by decide) ?_
      rw [← (Option.some.inj hf)]
      refine W.widen (k := 2) (n := 9) (Nat.le_of_ble_eq_true rfl) (Nat.le_of_ble_eq_true rfl) ?_
      exact zl_retz (v := false) C hr hw dL_isAsked_110
def zL_isAsked_34 (f1 : Nat → Int32) : Nat → Int64 → Int32 → (Nat → Int32) → zz_T → Option (Bool × zz_T)
  | 0, _, _, _, _ => none
  | n + 1, v2, v9, f4, st =>
    (zX8_many 5 st).bind fun x5 =>
    if x5 ≤ v9 then
      zL_isAsked_120 f1 zz_N v2 0 0 0 0 f4 st
    else
      (zX8_ofTrain v9 2 st).bind fun x62 =>
      if 0 ≤ x62 ∧ x62 < 4 then
        (zX8_ofTrain v9 7 st).bind fun x64 =>
        (zX8_many 10 st).bind fun x66 =>
        if x66 < x64 then
          some (false, st)
        else
          (zX8_ofTrain v9 2 st).bind fun x68 =>
          if x68 = 1 then
            zL_isAsked_91 f1 (fun v2' v9' f4' st' => zL_isAsked_34 f1 n v2' v9' f4' st') v2 v9 true (upd f4 x62.toNatClampNeg ((f4 x62.toNatClampNeg) + 1)) st
          else
            zL_isAsked_91 f1 (fun v2' v9' f4' st' => zL_isAsked_34 f1 n v2' v9' f4' st') v2 v9 false (upd f4 x62.toNatClampNeg ((f4 x62.toNatClampNeg) + 1)) st
      else
        none
set_option maxHeartbeats 4000000 in
set_option maxRecDepth 100000 in
theorem zt_L_isAsked_34 {p : Program} {l : Launch} {e : Env} {s : State} {m : MethodId} {args : Array Value} {below : List Frame} {meth : Method} {c : Code} {A : Nat → Prop} {D : va_G} {cI : ClassId} {q : Nat → Nat} (C : zl_C A D cI p s m args meth c cL_isAsked 15 wsL_isAsked yL_isAsked.cls) (hr : meth.sig.returnType = some .boolean) (a1 : Nat) (f1 : Nat → Int32) (hk1 : va_P D vwCl [(a1, .inl (cI, 6, .inl f1))] s.heap) (hkA : ¬ A a1) : ∀ (n : Nat) (v2 : Int64) (v9 : Int32) (f4 : (Nat → Int32)) (a4 : Nat) (st : zz_T) (H : Heap) (locs : List Loc) (ls : Array Slot) (r : (Bool × zz_T)), zL_isAsked_34 f1 n v2 v9 f4 st = some r → zl_W A D cI q [(a4, .inl (cI, 4, .inl f4))] st s.heap H locs → lv_has ls 15 [(0, .ref (q 0)), (1, .ref (a1)), (2, .long v2), (4, .ref (a4)), (5, .int 0), (6, .int 0), (7, .int 0), (8, .int 0), (9, .int v9)] → W p l e zr_L_isAsked s m args below meth c H locs 1 4 (MQ below (va_Qi (fun (x : Int32) (u : zz_T) => x = zz_b r.1 ∧ u = r.2) (fun u t => zz_B A D cI q u t) A) args s 2 9 A) (F0 m 34 ls []) := by
  obtain ⟨hx, hb, hml, hown, hts⟩ := id C.1
  intro n
  induction n with
  | zero => intro v2 v9 f4 a4 st H locs ls r hf; cases hf
  | succ n ih =>
    intro v2 v9 f4 a4 st H locs ls r hf hw hl
    rw [zL_isAsked_34] at hf
    refine lv_iload hx hb dL_isAsked_34 (lv_at hl 8 rfl) ?_
    refine lv_aload_n hx hb dL_isAsked_36 rfl (lv_at hl 0 rfl) ?_
    refine lv_iconst (v := 5) hx hb dL_isAsked_37 (by decide) ?_
    obtain ⟨x5, e6, hf⟩ := zz_bo hf
    refine zl_Vi C (As := [.int 5]) (rest := [.int v9]) (zc_X8_many _ _ _ e6) (cwV 1 hts gL_isAsked_X8_many rfl rfl rfl zd_X8_many ⟨(Nat.le_of_ble_eq_true rfl), (Nat.le_of_ble_eq_true rfl)⟩) hw 0 rfl rfl rfl hl rfl (Nat.le_of_ble_eq_true rfl) dL_isAsked_38 ⟨(Nat.le_of_ble_eq_true rfl), (Nat.le_of_ble_eq_true rfl)⟩ (fun H locs hw => ?_)
    refine lv_icmp_ge (tgt := 117) hx hb dL_isAsked_41 (by decide) (fun h => ?_) (fun h => ?_)
    · rw [if_pos h] at hf
      refine lv_iconst (v := 0) hx hb dL_isAsked_117 (by decide) ?_
      refine lv_istore (lv' := [(9, .int 0), (0, .ref (q 0)), (1, .ref (a1)), (2, .long v2), (4, .ref (a4)), (5, .int 0), (6, .int 0), (7, .int 0), (8, .int 0)]) hx hb dL_isAsked_118 hl (by decide) rfl (fun ls hl => ?_)
      refine W.widen (k := 1) (n := 4) (Nat.le_of_ble_eq_true rfl) (Nat.le_of_ble_eq_true rfl) ?_
      exact zt_L_isAsked_120 C hr a1 f1 hk1 hkA zz_N _ _ _ _ _ _ _ _ _ _ _ _ hf hw (lv_sub hl [1, 2, 3, 4, 5, 6, 7, 8, 0] rfl)
    · rw [if_neg h] at hf
      refine lv_aload hx hb dL_isAsked_44 (lv_at hl 3 rfl) ?_
      refine lv_aload_n hx hb dL_isAsked_46 rfl (lv_at hl 0 rfl) ?_
      refine lv_iload hx hb dL_isAsked_47 (lv_at hl 8 rfl) ?_
      refine lv_iconst (v := 2) hx hb dL_isAsked_49 (by decide) ?_
      obtain ⟨x62, e63, hf⟩ := zz_bo hf
      refine zl_Vi C (As := [.int v9, .int 2]) (rest := [.ref (a4)]) (zc_X8_ofTrain _ _ _ _ e63) (cwV 2 hts gL_isAsked_X8_ofTrain rfl rfl rfl zd_X8_ofTrain ⟨(Nat.le_of_ble_eq_true rfl), (Nat.le_of_ble_eq_true rfl)⟩) hw 0 rfl rfl rfl hl rfl (Nat.le_of_ble_eq_true rfl) dL_isAsked_50 ⟨(Nat.le_of_ble_eq_true rfl), (Nat.le_of_ble_eq_true rfl)⟩ (fun H locs hw => ?_)
      refine lv_dup2_11 hx hb dL_isAsked_53 rfl rfl ?_
      by_cases hg54 : 0 ≤ x62 ∧ x62 < 4
      · rw [if_pos hg54] at hf
        refine zl_ild C hw 0 rfl (zl_in hg54 (by decide)) dL_isAsked_54 ?_
        refine lv_iconst (v := 1) hx hb dL_isAsked_55 (by decide) ?_
        refine lv_iadd hx hb dL_isAsked_56 ?_
        refine zl_ist C hw 0 rfl (zl_in hg54 (by decide)) dL_isAsked_57 (fun H locs hw => ?_)
        have hw : zl_W A D cI q [(a4, .inl (cI, 4, .inl (upd f4 x62.toNatClampNeg ((f4 x62.toNatClampNeg) + 1))))] st s.heap H locs := hw
        refine lv_aload_n hx hb dL_isAsked_58 rfl (lv_at hl 0 rfl) ?_
        refine lv_iload hx hb dL_isAsked_59 (lv_at hl 8 rfl) ?_
        refine lv_bipush (v := 7) hx hb dL_isAsked_61 (by decide) ?_
        obtain ⟨x64, e65, hf⟩ := zz_bo hf
        refine zl_Vi C (As := [.int v9, .int 7]) (rest := []) (zc_X8_ofTrain _ _ _ _ e65) (cwV 2 hts gL_isAsked_X8_ofTrain rfl rfl rfl zd_X8_ofTrain ⟨(Nat.le_of_ble_eq_true rfl), (Nat.le_of_ble_eq_true rfl)⟩) hw 0 rfl rfl rfl hl rfl (Nat.le_of_ble_eq_true rfl) dL_isAsked_63 ⟨(Nat.le_of_ble_eq_true rfl), (Nat.le_of_ble_eq_true rfl)⟩ (fun H locs hw => ?_)
        refine lv_aload_n hx hb dL_isAsked_66 rfl (lv_at hl 0 rfl) ?_
        refine lv_bipush (v := 10) hx hb dL_isAsked_67 (by decide) ?_
        obtain ⟨x66, e67, hf⟩ := zz_bo hf
        refine zl_Vi C (As := [.int 10]) (rest := [.int x64]) (zc_X8_many _ _ _ e67) (cwV 1 hts gL_isAsked_X8_many rfl rfl rfl zd_X8_many ⟨(Nat.le_of_ble_eq_true rfl), (Nat.le_of_ble_eq_true rfl)⟩) hw 0 rfl rfl rfl hl rfl (Nat.le_of_ble_eq_true rfl) dL_isAsked_69 ⟨(Nat.le_of_ble_eq_true rfl), (Nat.le_of_ble_eq_true rfl)⟩ (fun H locs hw => ?_)
        refine lv_icmp_gt (tgt := 109) hx hb dL_isAsked_72 (by decide) (fun h => ?_) (fun h => ?_)
        · rw [if_pos h] at hf
          refine lv_iconst (v := 0) hx hb dL_isAsked_109 (by decide) ?_
          rw [← (Option.some.inj hf)]
          refine W.widen (k := 2) (n := 9) (Nat.le_of_ble_eq_true rfl) (Nat.le_of_ble_eq_true rfl) ?_
          exact zl_retz (v := false) C hr hw dL_isAsked_110
        · rw [if_neg h] at hf
          refine lv_aload_n hx hb dL_isAsked_75 rfl (lv_at hl 0 rfl) ?_
          refine lv_iload hx hb dL_isAsked_76 (lv_at hl 8 rfl) ?_
          refine lv_iconst (v := 2) hx hb dL_isAsked_78 (by decide) ?_
          obtain ⟨x68, e69, hf⟩ := zz_bo hf
          refine zl_Vi C (As := [.int v9, .int 2]) (rest := []) (zc_X8_ofTrain _ _ _ _ e69) (cwV 2 hts gL_isAsked_X8_ofTrain rfl rfl rfl zd_X8_ofTrain ⟨(Nat.le_of_ble_eq_true rfl), (Nat.le_of_ble_eq_true rfl)⟩) hw 0 rfl rfl rfl hl rfl (Nat.le_of_ble_eq_true rfl) dL_isAsked_79 ⟨(Nat.le_of_ble_eq_true rfl), (Nat.le_of_ble_eq_true rfl)⟩ (fun H locs hw => ?_)
          refine lv_iconst (v := 1) hx hb dL_isAsked_82 (by decide) ?_
          refine lv_icmp_ne (tgt := 90) hx hb dL_isAsked_83 (by decide) (fun h => ?_) (fun h => ?_)
          · rw [if_neg h] at hf
            refine lv_iconst (v := 0) hx hb dL_isAsked_90 (by decide) ?_
            refine W.widen (k := 1) (n := 4) (Nat.le_of_ble_eq_true rfl) (Nat.le_of_ble_eq_true rfl) ?_
            exact zt_L_isAsked_91 C hr a1 f1 hk1 hkA _ ih _ _ _ _ _ _ _ _ _ _ hf hw (lv_sub hl [0, 1, 2, 3, 4, 5, 6, 7, 8] rfl)
          · rw [if_pos h] at hf
            refine lv_iconst (v := 1) hx hb dL_isAsked_86 (by decide) ?_
            refine lv_goto (tgt := 91) hx hb dL_isAsked_87 (by decide) ?_
            refine W.widen (k := 1) (n := 4) (Nat.le_of_ble_eq_true rfl) (Nat.le_of_ble_eq_true rfl) ?_
            exact zt_L_isAsked_91 C hr a1 f1 hk1 hkA _ ih _ _ _ _ _ _ _ _ _ _ hf hw (lv_sub hl [0, 1, 2, 3, 4, 5, 6, 7, 8] rfl)
      · rw [if_neg hg54] at hf
        cases hf
def zL_isAsked (f1 : Nat → Int32) (st : zz_T) : Option (Bool × zz_T) :=
  (zX8_digest st).bind fun x1 =>
  (zX8_isSound st).bind fun x3 =>
  if x3 = true then
    zL_isAsked_34 f1 zz_N x1 0 (fun _ => 0) st
  else
    some (false, st)
set_option maxHeartbeats 4000000 in
set_option maxRecDepth 100000 in
theorem zc_L_isAsked {l : Launch} {A : Nat → Prop} {D : va_G} {cI : ClassId} {q : Nat → Nat} (a1 : Nat) (f1 : Nat → Int32) (hkA : ¬ A a1) (st : zz_T) (r : Bool × zz_T) (hf : zL_isAsked f1 st = some r) : Met l yL_isAsked wsL_isAsked zr_L_isAsked (va_Pc [.ref (q 0), .ref a1] (fun U => zz_B A D cI q st U ∧ va_P D vwCl [(a1, .inl (cI, 6, .inl f1))] U.heap)) (va_Qi (fun (x : Int32) (u : zz_T) => x = zz_b r.1 ∧ u = r.2) (fun u t => zz_B A D cI q u t) A) 2 9 A := by
  refine Met.ofW (cc := cL_isAsked) (maxL := 15) (ret := some .boolean) (by decide) rfl ?_
  intro p e s m args below meth c s₁ B hml hv
  obtain ⟨rfl, ⟨hA, hP, hK, hDD, hE⟩, hk1⟩ := hv
  have hts := atoms_spec (ws := wsL_isAsked) B.pre
  have hown : s.vm.findClass yL_isAsked.cls = some m.cls := findClass_of_methodNamed B.named
  have hx := B.exec
  have hb := B.bytes
  have hr := B.returns
  have C : zl_C A D cI p s m _ meth c cL_isAsked 15 wsL_isAsked yL_isAsked.cls := ⟨⟨B.exec, B.bytes, hml, hown, hts⟩, B.notSynchronized, hA, hK, hE⟩
  have hl := lv_entry [.ref (q 0), .ref a1] (n := 15) (Nat.le_of_ble_eq_true rfl)
  rw [lg_entry_eq]
  generalize (lg_sl ([.ref (q 0), .ref a1]) ++ List.replicate (15 - (lg_sl ([.ref (q 0), .ref a1])).length) Slot.unset).toArray = ls at hl ⊢
  have hl : lv_has ls 15 [(0, .ref (q 0)), (1, .ref a1)] := hl
  have hw : zl_W A D cI q [] st s.heap s.heap [] := by
    rw [zl_W, List.append_nil]
    exact ⟨hP, hDD.va cI st, va_S.rf⟩
  rw [zL_isAsked] at hf
  refine lv_aload_n hx hb dL_isAsked_0 rfl (lv_at hl 0 rfl) ?_
  obtain ⟨x1, e2, hf⟩ := zz_bo hf
  refine zl_Vl C (As := []) (rest := []) (zc_X8_digest _ _ e2) (cwV 0 hts gL_isAsked_X8_digest rfl rfl rfl zd_X8_digest ⟨(Nat.le_of_ble_eq_true rfl), (Nat.le_of_ble_eq_true rfl)⟩) hw 0 rfl rfl rfl hl rfl (Nat.le_of_ble_eq_true rfl) dL_isAsked_1 ⟨(Nat.le_of_ble_eq_true rfl), (Nat.le_of_ble_eq_true rfl)⟩ (fun H locs hw => ?_)
  refine lv_lstore_n (lv' := [(2, .long x1), (0, .ref (q 0)), (1, .ref (a1))]) hx hb dL_isAsked_4 rfl hl (by decide) rfl (fun ls hl => ?_)
  refine lv_aload_n hx hb dL_isAsked_5 rfl (lv_at hl 1 rfl) ?_
  obtain ⟨x3, e4, hf⟩ := zz_bo hf
  refine zl_Vi C (As := []) (rest := []) (zc_X8_isSound _ _ e4) (cwV 0 hts gL_isAsked_X8_isSound rfl rfl rfl zd_X8_isSound ⟨(Nat.le_of_ble_eq_true rfl), (Nat.le_of_ble_eq_true rfl)⟩) hw 0 rfl rfl rfl hl rfl (Nat.le_of_ble_eq_true rfl) dL_isAsked_6 ⟨(Nat.le_of_ble_eq_true rfl), (Nat.le_of_ble_eq_true rfl)⟩ (fun H locs hw => ?_)
  refine lv_if_ne (tgt := 14) hx hb dL_isAsked_9 (by decide) (fun h => ?_) (fun h => ?_)
  · rw [zz_if1 (zz_b1 h)] at hf
    refine lv_iconst (v := 4) hx hb dL_isAsked_14 (by decide) ?_
    refine zl_new (N := 4) C (by decide +kernel) hw (by decide) (by decide) (by decide) (Nat.le_of_ble_eq_true rfl) (Nat.le_of_ble_eq_true rfl) dL_isAsked_15 (fun a4 H hw => ?_)
    have hw : zl_W A D cI q [(a4, .inl (cI, 4, .inl (fun _ => 0)))] st s.heap H locs := hw
    refine lv_astore (lv' := [(4, .ref (a4)), (2, .long x1), (0, .ref (q 0)), (1, .ref (a1))]) hx hb dL_isAsked_17 hl (by decide) rfl (fun ls hl => ?_)
    refine lv_iconst (v := 0) hx hb dL_isAsked_19 (by decide) ?_
    refine lv_istore (lv' := [(5, .int 0), (4, .ref (a4)), (2, .long x1), (0, .ref (q 0)), (1, .ref (a1))]) hx hb dL_isAsked_20 hl (by decide) rfl (fun ls hl => ?_)
    refine lv_iconst (v := 0) hx hb dL_isAsked_22 (by decide) ?_
    refine lv_istore (lv' := [(6, .int 0), (5, .int 0), (4, .ref (a4)), (2, .long x1), (0, .ref (q 0)), (1, .ref (a1))]) hx hb dL_isAsked_23 hl (by decide) rfl (fun ls hl => ?_)
    refine lv_iconst (v := 0) hx hb dL_isAsked_25 (by decide) ?_
    refine lv_istore (lv' := [(7, .int 0), (6, .int 0), (5, .int 0), (4, .ref (a4)), (2, .long x1), (0, .ref (q 0)), (1, .ref (a1))]) hx hb dL_isAsked_26 hl (by decide) rfl (fun ls hl => ?_)
    refine lv_iconst (v := 0) hx hb dL_isAsked_28 (by decide) ?_
    refine lv_istore (lv' := [(8, .int 0), (7, .int 0), (6, .int 0), (5, .int 0), (4, .ref (a4)), (2, .long x1), (0, .ref (q 0)), (1, .ref (a1))]) hx hb dL_isAsked_29 hl (by decide) rfl (fun ls hl => ?_)
    refine lv_iconst (v := 0) hx hb dL_isAsked_31 (by decide) ?_
    refine lv_istore (lv' := [(9, .int 0), (8, .int 0), (7, .int 0), (6, .int 0), (5, .int 0), (4, .ref (a4)), (2, .long x1), (0, .ref (q 0)), (1, .ref (a1))]) hx hb dL_isAsked_32 hl (by decide) rfl (fun ls hl => ?_)
    refine W.widen (k := 1) (n := 4) (Nat.le_of_ble_eq_true rfl) (Nat.le_of_ble_eq_true rfl) ?_
    exact zt_L_isAsked_34 C hr a1 f1 hk1 hkA zz_N _ _ _ _ _ _ _ _ _ hf hw (lv_sub hl [7, 8, 6, 5, 4, 3, 2, 1, 0] rfl)
  · rw [zz_if0 (zz_b0 h)] at hf
    refine lv_iconst (v := 0) hx hb dL_isAsked_12 (by decide) ?_
    rw [← (Option.some.inj hf)]
    refine W.widen (k := 2) (n := 9) (Nat.le_of_ble_eq_true rfl) (Nat.le_of_ble_eq_true rfl) ?_
    exact zl_retz (v := false) C hr hw dL_isAsked_13
