/-! TABLE: its six methods (the constructor apart) -/
theorem zz_clamp {x : Int32} {n : Nat} (h0 : ¬ x < 0) (h : ¬ zz_l n ≤ x) (hn : zz_n n < 2 ^ 31) : vp_in x (zz_n n) := by
  obtain ⟨j, hj, hx, -, hc, -⟩ := pk_mu (x := x) (L := zz_n n) h0 h hn
  rintro (q | q)
  · exact h0 q
  · omega
theorem zz_n_lt (t : Nat) : zz_n t < 2 ^ 31 := by
  by_cases h : t < 24
  · revert t; decide +kernel
  · unfold zz_n
    rw [List.getD_eq_getElem?_getD, List.getElem?_eq_none (by show 24 ≤ t; omega)]
    decide
/-- an array that agrees as far as it goes is the same cell -/
theorem zz_P_ext {D : va_G} {q : Nat → Nat} {cI : ClassId} {st : zz_T} {t : Nat} (ht : t < 24) {f g : Nat → Int32} {H : Heap} (h : va_P D vwCl (zz_c q cI (zz_up t f st)) H) (hfg : ∀ j, j < zz_n t → f j = g j) : va_P D vwCl (zz_c q cI (zz_up t g st)) H := by
  intro k x hx
  by_cases hk : k = 33 + t
  · subst hk
    have h1 := h (33 + t) _ (zz_c_arr ht)
    rw [zz_c_arr ht] at hx
    cases hx
    have h2 : H[q (33 + t)]? = some (arrV cI (zz_n t) (fun j => .int ((zz_up t f st).1 t j))) := h1
    show H[q (33 + t)]? = some (arrV cI (zz_n t) (fun j => .int ((zz_up t g st).1 t j)))
    rw [h2]
    have e : (fun (j : Fin (zz_n t)) => Value.int ((zz_up t f st).1 t j.val)) = fun (j : Fin (zz_n t)) => Value.int ((zz_up t g st).1 t j.val) := by
      funext j
      simp [zz_up, hfg j.val j.isLt]
    unfold arrV
    rw [e]
  · refine h k x ?_
    rw [← hx, ← zz_c_set (st := st) ht f, ← zz_c_set (st := st) ht g, List.getElem?_set_ne (Ne.symm hk), List.getElem?_set_ne (Ne.symm hk)]
theorem zz_up_up (t : Nat) (f g : Nat → Int32) (st : zz_T) : zz_up t f (zz_up t g st) = zz_up t f st := by
  unfold zz_up
  refine Prod.ext ?_ rfl
  funext u
  by_cases h : u = t <;> simp [h]
theorem zz_up_self (t : Nat) (f : Nat → Int32) (st : zz_T) : (zz_up t f st).1 t = f := by simp [zz_up]
theorem zz_up_id (t : Nat) (st : zz_T) : zz_up t (st.1 t) st = st := by
  unfold zz_up
  refine Prod.ext ?_ rfl
  funext u
  by_cases h : u = t <;> simp [h]

theorem zk_X5_get_7 : Cond.fieldLink yX5_get.cls 7 RX5 "width" "I" ∈ wsX5_get := by decide +kernel
theorem zk_X5_get_13 : Cond.fieldLink yX5_get.cls 13 RX5 "cells" "[I" ∈ wsX5_get := by decide +kernel
theorem zi_X5_get_5 : ∀ w ∈ u_ws RX5 TX5 2, w ∈ wsX5_get := by decide +kernel
set_option maxHeartbeats 4000000 in
set_option maxRecDepth 100000 in
theorem zc_X5_get {l : Launch} {A : Nat → Prop} {D : va_G} {cI : ClassId} {q : Nat → Nat} (t : Nat) (ht : t < 24) (r c : Int32) (st : zz_T) : zz_Mi l A D cI q yX5_get wsX5_get { frames := 0, cells := 0, slots := 0, locals := 0 } [.ref (q (9 + t)), .int r, .int c] st (zz_g t r c st) st := by
  refine zz_of (cc := cX5_get) (nL := 5) (ret := some .int) (by decide) rfl (Nat.le_of_ble_eq_true rfl) ?_
  intro p e s m args below meth c0 ls C hr hP hS hl
  obtain ⟨hx, hb, hml, hown, hts⟩ := C.1
  have hK := C.2.2.2.1
  have hl : lv_has ls 5 [(0, .ref (q (9 + t))), (1, .int r), (2, .int c)] := hl
  have hout : ¬ zz_in t r c → ∀ ls, lv_has ls 5 [(3, .int (zz_at t r c)), (0, .ref (q (9 + t))), (1, .int r), (2, .int c)] → W p l e { frames := 0, cells := 0, slots := 0, locals := 0 } s m args below meth c0 s.heap [] 0 0 (zz_Qi A D cI q (zz_g t r c st) st below args s) (F0 m 42 ls []) := by
    intro hn ls hl
    refine lv_iconst (v := 0) hx hb dX5_get_42 (by decide) ?_
    refine lv_istore (lv' := [(4, .int 0), (3, .int (zz_at t r c)), (0, .ref (q (9 + t))), (1, .int r), (2, .int c)]) hx hb dX5_get_43 hl (by decide) rfl (fun ls hl => ?_)
    refine lv_iload hx hb dX5_get_45 (lv_at hl 0 rfl) ?_
    refine lv_if_eq (tgt := 59) hx hb dX5_get_47 (by decide) (fun _ => ?_) (fun h => absurd rfl h)
    refine lv_iconst (v := 0) hx hb dX5_get_59 (by decide) ?_
    have e : zz_g t r c st = 0 := if_neg hn
    rw [e]
    exact zz_reti C hr hP hS dX5_get_60
  refine lv_iload_n hx hb dX5_get_0 rfl (lv_at hl 1 rfl) ?_
  refine lv_aload_n hx hb dX5_get_1 rfl (lv_at hl 0 rfl) ?_
  refine zz_getf C zi_X5_get_5 hP (9 + t) (zz_c_tab ht) rfl 1 (nm := "width") (ds := "I") (fin := true) rfl (by decide) zk_X5_get_7 rfl dX5_get_2 ?_
  refine lv_imul hx hb dX5_get_5 ?_
  refine lv_iload_n hx hb dX5_get_6 rfl (lv_at hl 2 rfl) ?_
  refine lv_iadd hx hb dX5_get_7 ?_
  refine lv_istore_n (lv' := [(3, .int (zz_at t r c)), (0, .ref (q (9 + t))), (1, .int r), (2, .int c)]) hx hb dX5_get_8 rfl hl (by decide) rfl (fun ls hl => ?_)
  refine lv_iload_n hx hb dX5_get_9 rfl (lv_at hl 2 rfl) ?_
  refine lv_if_lt (tgt := 42) hx hb dX5_get_10 (by decide) (fun h => hout (fun z => Int32.not_lt.mpr z.1 h) ls hl) (fun h1 => ?_)
  refine lv_iload_n hx hb dX5_get_13 rfl (lv_at hl 3 rfl) ?_
  refine lv_if_lt (tgt := 42) hx hb dX5_get_14 (by decide) (fun h => hout (fun z => Int32.not_lt.mpr z.2.1 h) ls hl) (fun h2 => ?_)
  refine lv_iload_n hx hb dX5_get_17 rfl (lv_at hl 3 rfl) ?_
  refine lv_aload_n hx hb dX5_get_18 rfl (lv_at hl 1 rfl) ?_
  refine zz_getf C zi_X5_get_5 hP (9 + t) (zz_c_tab ht) rfl 1 (nm := "width") (ds := "I") (fin := true) rfl (by decide) zk_X5_get_7 rfl dX5_get_19 ?_
  refine lv_icmp_ge (tgt := 42) hx hb dX5_get_22 (by decide) (fun h => hout (fun z => Int32.not_lt.mpr h z.2.2.1) ls hl) (fun h3 => ?_)
  refine lv_iload_n hx hb dX5_get_25 rfl (lv_at hl 0 rfl) ?_
  refine lv_if_lt (tgt := 42) hx hb dX5_get_26 (by decide) (fun h => hout (fun z => Int32.not_lt.mpr z.2.2.2.1 h) ls hl) (fun h4 => ?_)
  refine lv_iload_n hx hb dX5_get_29 rfl (lv_at hl 0 rfl) ?_
  refine lv_aload_n hx hb dX5_get_30 rfl (lv_at hl 1 rfl) ?_
  refine zz_getf C zi_X5_get_5 hP (9 + t) (zz_c_tab ht) rfl 0 (nm := "cells") (ds := "[I") (fin := true) rfl (by decide) zk_X5_get_13 rfl dX5_get_31 ?_
  refine va_alen (D := D) (v := zz_l t) hx hb hK hP (33 + t) 0 (zz_c_arr ht) rfl rfl dX5_get_34 ?_
  refine lv_icmp_ge (tgt := 42) hx hb dX5_get_35 (by decide) (fun h => hout (fun z => Int32.not_lt.mpr h z.2.2.2.2) ls hl) (fun h5 => ?_)
  have hin : zz_in t r c := ⟨Int32.not_lt.mp h1, Int32.not_lt.mp h2, Int32.not_le.mp h3, Int32.not_lt.mp h4, Int32.not_le.mp h5⟩
  refine lv_iconst (v := 1) hx hb dX5_get_38 (by decide) ?_
  refine lv_goto (tgt := 43) hx hb dX5_get_39 (by decide) ?_
  refine lv_istore (lv' := [(4, .int 1), (3, .int (zz_at t r c)), (0, .ref (q (9 + t))), (1, .int r), (2, .int c)]) hx hb dX5_get_43 hl (by decide) rfl (fun ls hl => ?_)
  refine lv_iload hx hb dX5_get_45 (lv_at hl 0 rfl) ?_
  refine lv_if_eq (tgt := 59) hx hb dX5_get_47 (by decide) (fun h => absurd h (by decide)) (fun _ => ?_)
  refine lv_aload_n hx hb dX5_get_50 rfl (lv_at hl 2 rfl) ?_
  refine zz_getf C zi_X5_get_5 hP (9 + t) (zz_c_tab ht) rfl 0 (nm := "cells") (ds := "[I") (fin := true) rfl (by decide) zk_X5_get_13 rfl dX5_get_51 ?_
  refine lv_iload_n hx hb dX5_get_54 rfl (lv_at hl 1 rfl) ?_
  refine va_iald (D := D) hx hb hK hP (33 + t) 0 (zz_c_arr ht) rfl (zz_clamp h4 h5 (zz_n_lt t)) dX5_get_55 ?_
  refine lv_goto (tgt := 60) hx hb dX5_get_56 (by decide) ?_
  have e : zz_g t r c st = st.1 t (zz_at t r c).toNatClampNeg := if_pos hin
  rw [e]
  exact zz_reti C hr hP hS dX5_get_60
theorem zk_X5_set_7 : Cond.fieldLink yX5_set.cls 7 RX5 "width" "I" ∈ wsX5_set := by decide +kernel
theorem zk_X5_set_13 : Cond.fieldLink yX5_set.cls 13 RX5 "cells" "[I" ∈ wsX5_set := by decide +kernel
theorem zi_X5_set_5 : ∀ w ∈ u_ws RX5 TX5 2, w ∈ wsX5_set := by decide +kernel
set_option maxHeartbeats 4000000 in
set_option maxRecDepth 100000 in
theorem zc_X5_set {l : Launch} {A : Nat → Prop} {D : va_G} {cI : ClassId} {q : Nat → Nat} (t : Nat) (ht : t < 24) (r c v : Int32) (st : zz_T) : zz_Mv l A D cI q yX5_set wsX5_set { frames := 0, cells := 0, slots := 0, locals := 0 } [.ref (q (9 + t)), .int r, .int c, .int v] st (zz_set t r c v st) := by
  refine zz_of (cc := cX5_set) (nL := 5) (ret := none) (by decide) rfl (Nat.le_of_ble_eq_true rfl) ?_
  intro p e s m args below meth c0 ls C hr hP hS hl
  obtain ⟨hx, hb, hml, hown, hts⟩ := C.1
  have hK := C.2.2.2.1
  have hl : lv_has ls 5 [(0, .ref (q (9 + t))), (1, .int r), (2, .int c), (3, .int v)] := hl
  have hout : ¬ zz_in t r c → ∀ ls, W p l e { frames := 0, cells := 0, slots := 0, locals := 0 } s m args below meth c0 s.heap [] 0 0 (zz_Qv A D cI q (zz_set t r c v st) below args s) (F0 m 49 ls []) := by
    intro hn ls
    have e : zz_set t r c v st = st := if_neg hn
    rw [e]
    exact zz_retv C hr hP hS dX5_set_49
  refine lv_iload_n hx hb dX5_set_0 rfl (lv_at hl 1 rfl) ?_
  refine lv_aload_n hx hb dX5_set_1 rfl (lv_at hl 0 rfl) ?_
  refine zz_getf C zi_X5_set_5 hP (9 + t) (zz_c_tab ht) rfl 1 (nm := "width") (ds := "I") (fin := true) rfl (by decide) zk_X5_set_7 rfl dX5_set_2 ?_
  refine lv_imul hx hb dX5_set_5 ?_
  refine lv_iload_n hx hb dX5_set_6 rfl (lv_at hl 2 rfl) ?_
  refine lv_iadd hx hb dX5_set_7 ?_
  refine lv_istore (lv' := [(4, .int (zz_at t r c)), (0, .ref (q (9 + t))), (1, .int r), (2, .int c), (3, .int v)]) hx hb dX5_set_8 hl (by decide) rfl (fun ls hl => ?_)
  refine lv_iload_n hx hb dX5_set_10 rfl (lv_at hl 2 rfl) ?_
  refine lv_if_lt (tgt := 49) hx hb dX5_set_11 (by decide) (fun h => hout (fun z => Int32.not_lt.mpr z.1 h) ls) (fun h1 => ?_)
  refine lv_iload_n hx hb dX5_set_14 rfl (lv_at hl 3 rfl) ?_
  refine lv_if_lt (tgt := 49) hx hb dX5_set_15 (by decide) (fun h => hout (fun z => Int32.not_lt.mpr z.2.1 h) ls) (fun h2 => ?_)
  refine lv_iload_n hx hb dX5_set_18 rfl (lv_at hl 3 rfl) ?_
  refine lv_aload_n hx hb dX5_set_19 rfl (lv_at hl 1 rfl) ?_
  refine zz_getf C zi_X5_set_5 hP (9 + t) (zz_c_tab ht) rfl 1 (nm := "width") (ds := "I") (fin := true) rfl (by decide) zk_X5_set_7 rfl dX5_set_20 ?_
  refine lv_icmp_ge (tgt := 49) hx hb dX5_set_23 (by decide) (fun h => hout (fun z => Int32.not_lt.mpr h z.2.2.1) ls) (fun h3 => ?_)
  refine lv_iload hx hb dX5_set_26 (lv_at hl 0 rfl) ?_
  refine lv_if_lt (tgt := 49) hx hb dX5_set_28 (by decide) (fun h => hout (fun z => Int32.not_lt.mpr z.2.2.2.1 h) ls) (fun h4 => ?_)
  refine lv_iload hx hb dX5_set_31 (lv_at hl 0 rfl) ?_
  refine lv_aload_n hx hb dX5_set_33 rfl (lv_at hl 1 rfl) ?_
  refine zz_getf C zi_X5_set_5 hP (9 + t) (zz_c_tab ht) rfl 0 (nm := "cells") (ds := "[I") (fin := true) rfl (by decide) zk_X5_set_13 rfl dX5_set_34 ?_
  refine va_alen (D := D) (v := zz_l t) hx hb hK hP (33 + t) 0 (zz_c_arr ht) rfl rfl dX5_set_37 ?_
  refine lv_icmp_ge (tgt := 49) hx hb dX5_set_38 (by decide) (fun h => hout (fun z => Int32.not_lt.mpr h z.2.2.2.2) ls) (fun h5 => ?_)
  have hin : zz_in t r c := ⟨Int32.not_lt.mp h1, Int32.not_lt.mp h2, Int32.not_le.mp h3, Int32.not_lt.mp h4, Int32.not_le.mp h5⟩
  refine lv_aload_n hx hb dX5_set_41 rfl (lv_at hl 1 rfl) ?_
  refine zz_getf C zi_X5_set_5 hP (9 + t) (zz_c_tab ht) rfl 0 (nm := "cells") (ds := "[I") (fin := true) rfl (by decide) zk_X5_set_13 rfl dX5_set_42 ?_
  refine lv_iload hx hb dX5_set_45 (lv_at hl 0 rfl) ?_
  refine lv_iload_n hx hb dX5_set_47 rfl (lv_at hl 4 rfl) ?_
  refine va_iast (D := D) hx hb hK hP (C.2.2.2.2.1.va cI st) hS (33 + t) 0 (zz_c_arr ht) rfl (zz_clamp h4 h5 (zz_n_lt t)) dX5_set_48 (fun H1 locs1 hP1 _ hS1 => ?_)
  rw [zz_c_set ht] at hP1
  have e : zz_set t r c v st = zz_up t (upd (st.1 t) (zz_at t r c).toNatClampNeg v) st := if_pos hin
  rw [e]
  exact zz_retv C hr hP1 hS1 dX5_set_49
theorem zk_X5_add_7 : Cond.fieldLink yX5_add.cls 7 RX5 "width" "I" ∈ wsX5_add := by decide +kernel
theorem zk_X5_add_13 : Cond.fieldLink yX5_add.cls 13 RX5 "cells" "[I" ∈ wsX5_add := by decide +kernel
theorem zi_X5_add_5 : ∀ w ∈ u_ws RX5 TX5 2, w ∈ wsX5_add := by decide +kernel
set_option maxHeartbeats 4000000 in
set_option maxRecDepth 100000 in
theorem zc_X5_add {l : Launch} {A : Nat → Prop} {D : va_G} {cI : ClassId} {q : Nat → Nat} (t : Nat) (ht : t < 24) (r c v : Int32) (st : zz_T) : zz_Mv l A D cI q yX5_add wsX5_add { frames := 0, cells := 0, slots := 0, locals := 0 } [.ref (q (9 + t)), .int r, .int c, .int v] st (zz_add t r c v st) := by
  refine zz_of (cc := cX5_add) (nL := 5) (ret := none) (by decide) rfl (Nat.le_of_ble_eq_true rfl) ?_
  intro p e s m args below meth c0 ls C hr hP hS hl
  obtain ⟨hx, hb, hml, hown, hts⟩ := C.1
  have hK := C.2.2.2.1
  have hl : lv_has ls 5 [(0, .ref (q (9 + t))), (1, .int r), (2, .int c), (3, .int v)] := hl
  have hout : ¬ zz_in t r c → ∀ ls, W p l e { frames := 0, cells := 0, slots := 0, locals := 0 } s m args below meth c0 s.heap [] 0 0 (zz_Qv A D cI q (zz_add t r c v st) below args s) (F0 m 52 ls []) := by
    intro hn ls
    have e : zz_add t r c v st = st := if_neg hn
    rw [e]
    exact zz_retv C hr hP hS dX5_add_52
  refine lv_iload_n hx hb dX5_add_0 rfl (lv_at hl 1 rfl) ?_
  refine lv_aload_n hx hb dX5_add_1 rfl (lv_at hl 0 rfl) ?_
  refine zz_getf C zi_X5_add_5 hP (9 + t) (zz_c_tab ht) rfl 1 (nm := "width") (ds := "I") (fin := true) rfl (by decide) zk_X5_add_7 rfl dX5_add_2 ?_
  refine lv_imul hx hb dX5_add_5 ?_
  refine lv_iload_n hx hb dX5_add_6 rfl (lv_at hl 2 rfl) ?_
  refine lv_iadd hx hb dX5_add_7 ?_
  refine lv_istore (lv' := [(4, .int (zz_at t r c)), (0, .ref (q (9 + t))), (1, .int r), (2, .int c), (3, .int v)]) hx hb dX5_add_8 hl (by decide) rfl (fun ls hl => ?_)
  refine lv_iload_n hx hb dX5_add_10 rfl (lv_at hl 2 rfl) ?_
  refine lv_if_lt (tgt := 52) hx hb dX5_add_11 (by decide) (fun h => hout (fun z => Int32.not_lt.mpr z.1 h) ls) (fun h1 => ?_)
  refine lv_iload_n hx hb dX5_add_14 rfl (lv_at hl 3 rfl) ?_
  refine lv_if_lt (tgt := 52) hx hb dX5_add_15 (by decide) (fun h => hout (fun z => Int32.not_lt.mpr z.2.1 h) ls) (fun h2 => ?_)
  refine lv_iload_n hx hb dX5_add_18 rfl (lv_at hl 3 rfl) ?_
  refine lv_aload_n hx hb dX5_add_19 rfl (lv_at hl 1 rfl) ?_
  refine zz_getf C zi_X5_add_5 hP (9 + t) (zz_c_tab ht) rfl 1 (nm := "width") (ds := "I") (fin := true) rfl (by decide) zk_X5_add_7 rfl dX5_add_20 ?_
  refine lv_icmp_ge (tgt := 52) hx hb dX5_add_23 (by decide) (fun h => hout (fun z => Int32.not_lt.mpr h z.2.2.1) ls) (fun h3 => ?_)
  refine lv_iload hx hb dX5_add_26 (lv_at hl 0 rfl) ?_
  refine lv_if_lt (tgt := 52) hx hb dX5_add_28 (by decide) (fun h => hout (fun z => Int32.not_lt.mpr z.2.2.2.1 h) ls) (fun h4 => ?_)
  refine lv_iload hx hb dX5_add_31 (lv_at hl 0 rfl) ?_
  refine lv_aload_n hx hb dX5_add_33 rfl (lv_at hl 1 rfl) ?_
  refine zz_getf C zi_X5_add_5 hP (9 + t) (zz_c_tab ht) rfl 0 (nm := "cells") (ds := "[I") (fin := true) rfl (by decide) zk_X5_add_13 rfl dX5_add_34 ?_
  refine va_alen (D := D) (v := zz_l t) hx hb hK hP (33 + t) 0 (zz_c_arr ht) rfl rfl dX5_add_37 ?_
  refine lv_icmp_ge (tgt := 52) hx hb dX5_add_38 (by decide) (fun h => hout (fun z => Int32.not_lt.mpr h z.2.2.2.2) ls) (fun h5 => ?_)
  have hin : zz_in t r c := ⟨Int32.not_lt.mp h1, Int32.not_lt.mp h2, Int32.not_le.mp h3, Int32.not_lt.mp h4, Int32.not_le.mp h5⟩
  refine lv_aload_n hx hb dX5_add_41 rfl (lv_at hl 1 rfl) ?_
  refine zz_getf C zi_X5_add_5 hP (9 + t) (zz_c_tab ht) rfl 0 (nm := "cells") (ds := "[I") (fin := true) rfl (by decide) zk_X5_add_13 rfl dX5_add_42 ?_
  refine lv_iload hx hb dX5_add_45 (lv_at hl 0 rfl) ?_
  refine lv_dup2_11 hx hb dX5_add_47 rfl rfl ?_
  refine va_iald (D := D) hx hb hK hP (33 + t) 0 (zz_c_arr ht) rfl (zz_clamp h4 h5 (zz_n_lt t)) dX5_add_48 ?_
  refine lv_iload_n hx hb dX5_add_49 rfl (lv_at hl 4 rfl) ?_
  refine lv_iadd hx hb dX5_add_50 ?_
  refine va_iast (D := D) hx hb hK hP (C.2.2.2.2.1.va cI st) hS (33 + t) 0 (zz_c_arr ht) rfl (zz_clamp h4 h5 (zz_n_lt t)) dX5_add_51 (fun H1 locs1 hP1 _ hS1 => ?_)
  rw [zz_c_set ht] at hP1
  have e : zz_add t r c v st = zz_up t (upd (st.1 t) (zz_at t r c).toNatClampNeg (st.1 t (zz_at t r c).toNatClampNeg + v)) st := by
    unfold zz_add zz_set
    rw [if_pos hin]
    have e2 : zz_g t r c st = st.1 t (zz_at t r c).toNatClampNeg := if_pos hin
    rw [e2]
  rw [e]
  exact zz_retv C hr hP1 hS1 dX5_add_52
theorem zk_X5_fill_13 : Cond.fieldLink yX5_fill.cls 13 RX5 "cells" "[I" ∈ wsX5_fill := by decide +kernel
theorem zi_X5_fill_5 : ∀ w ∈ u_ws RX5 TX5 2, w ∈ wsX5_fill := by decide +kernel
set_option maxHeartbeats 4000000 in
set_option maxRecDepth 100000 in
theorem zc_X5_fill {l : Launch} {A : Nat → Prop} {D : va_G} {cI : ClassId} {q : Nat → Nat} (t : Nat) (ht : t < 24) (v : Int32) (st : zz_T) : zz_Mv l A D cI q yX5_fill wsX5_fill { frames := 0, cells := 0, slots := 0, locals := 0 } [.ref (q (9 + t)), .int v] st (zz_fill t v st) := by
  refine zz_of (cc := cX5_fill) (nL := 3) (ret := none) (by decide) rfl (Nat.le_of_ble_eq_true rfl) ?_
  intro p e s m args below meth c0 ls C hr hP hS hl
  obtain ⟨hx, hb, hml, hown, hts⟩ := C.1
  have hK := C.2.2.2.1
  have hl : lv_has ls 3 [(0, .ref (q (9 + t))), (1, .int v)] := hl
  have loop : ∀ (n i : Nat), zz_n t + 1 ≤ i + n → i ≤ zz_n t → ∀ (f : Nat → Int32) (H : Heap) (locs : List Loc) (ls : Array Slot), (∀ j, j < i → f j = v) → va_P D vwCl (zz_c q cI (zz_up t f st)) H → va_S A s.heap H locs → lv_has ls 3 [(2, .int (nI i)), (0, .ref (q (9 + t))), (1, .int v)] → W p l e { frames := 0, cells := 0, slots := 0, locals := 0 } s m args below meth c0 H locs 0 0 (zz_Qv A D cI q (zz_fill t v st) below args s) (F0 m 2 ls []) := by
    intro n
    induction n with
    | zero => intro i h1 h2; exact absurd h1 (by omega)
    | succ n ih =>
      intro i h1 h2 f H locs ls hf hP hS hl
      have hb31 := zz_n_lt t
      refine lv_iload_n hx hb dX5_fill_2 rfl (lv_at hl 0 rfl) ?_
      refine lv_aload_n hx hb dX5_fill_3 rfl (lv_at hl 1 rfl) ?_
      refine zz_getf C zi_X5_fill_5 hP (9 + t) (zz_c_tab ht) rfl 0 (nm := "cells") (ds := "[I") (fin := true) rfl (by decide) zk_X5_fill_13 rfl dX5_fill_4 ?_
      refine va_alen (D := D) (v := zz_l t) hx hb hK hP (33 + t) 0 (zz_c_arr ht) rfl rfl dX5_fill_7 ?_
      refine lv_icmp_ge (tgt := 24) hx hb dX5_fill_8 (by decide) (fun h => ?_) (fun h => ?_)
      · have hi : zz_n t ≤ i := (nI_leI hb31 (by omega)).mp h
        exact zz_retv C hr (zz_P_ext ht hP (fun j hj => hf j (by omega))) hS dX5_fill_24
      · have hi : i < zz_n t := Nat.not_le.mp (fun z => h (nI_le z (by omega)))
        refine lv_aload_n hx hb dX5_fill_11 rfl (lv_at hl 1 rfl) ?_
        refine zz_getf C zi_X5_fill_5 hP (9 + t) (zz_c_tab ht) rfl 0 (nm := "cells") (ds := "[I") (fin := true) rfl (by decide) zk_X5_fill_13 rfl dX5_fill_12 ?_
        refine lv_iload_n hx hb dX5_fill_15 rfl (lv_at hl 0 rfl) ?_
        refine lv_iload_n hx hb dX5_fill_16 rfl (lv_at hl 2 rfl) ?_
        refine va_iast (D := D) hx hb hK hP (C.2.2.2.2.1.va cI _) hS (33 + t) 0 (zz_c_arr ht) rfl (vp_in_nI hi hb31) dX5_fill_17 (fun H1 locs1 hP1 _ hS1 => ?_)
        rw [zz_c_set ht, zz_up_up, zz_up_self] at hP1
        refine lv_iinc (v := nI (i + 1)) (lv' := [(2, .int (nI (i + 1))), (0, .ref (q (9 + t))), (1, .int v)]) hx hb dX5_fill_18 hl (k := 0) rfl (nI_1 i) (by decide) rfl (fun ls hl => ?_)
        refine lv_goto (tgt := 2) hx hb dX5_fill_21 (by decide) ?_
        refine ih (i + 1) (by omega) hi _ H1 locs1 ls (fun j hj => ?_) hP1 hS1 hl
        rw [nI_clamp (by omega)]
        unfold upd
        by_cases hj2 : j = i
        · rw [if_pos hj2]
        · rw [if_neg hj2]; exact hf j (by omega)
  refine lv_iconst (v := 0) hx hb dX5_fill_0 (by decide) ?_
  refine lv_istore_n (lv' := [(2, .int (nI 0)), (0, .ref (q (9 + t))), (1, .int v)]) hx hb dX5_fill_1 rfl hl (by decide) rfl (fun ls hl => ?_)
  have hP0 : va_P D vwCl (zz_c q cI (zz_up t (st.1 t) st)) s.heap := by rw [zz_up_id]; exact hP
  exact loop (zz_n t + 1) 0 (by omega) (Nat.zero_le _) (st.1 t) _ _ ls (fun j hj => absurd hj (Nat.not_lt_zero j)) hP0 hS hl
theorem zk_X5_copyFrom_13 : Cond.fieldLink yX5_copyFrom.cls 13 RX5 "cells" "[I" ∈ wsX5_copyFrom := by decide +kernel
theorem zi_X5_copyFrom_5 : ∀ w ∈ u_ws RX5 TX5 2, w ∈ wsX5_copyFrom := by decide +kernel
set_option maxHeartbeats 4000000 in
set_option maxRecDepth 100000 in
theorem zc_X5_copyFrom {l : Launch} {A : Nat → Prop} {D : va_G} {cI : ClassId} {q : Nat → Nat} (t u : Nat) (ht : t < 24) (hu : u < 24) (htu : zz_n t = zz_n u) (hne : u ≠ t) (st : zz_T) : zz_Mv l A D cI q yX5_copyFrom wsX5_copyFrom { frames := 0, cells := 0, slots := 0, locals := 0 } [.ref (q (9 + t)), .ref (q (9 + u))] st (zz_cp t u st) := by
  refine zz_of (cc := cX5_copyFrom) (nL := 3) (ret := none) (by decide) rfl (Nat.le_of_ble_eq_true rfl) ?_
  intro p e s m args below meth c0 ls C hr hP hS hl
  obtain ⟨hx, hb, hml, hown, hts⟩ := C.1
  have hK := C.2.2.2.1
  have hl : lv_has ls 3 [(0, .ref (q (9 + t))), (1, .ref (q (9 + u)))] := hl
  have loop : ∀ (n i : Nat), zz_n t + 1 ≤ i + n → i ≤ zz_n t → ∀ (f : Nat → Int32) (H : Heap) (locs : List Loc) (ls : Array Slot), (∀ j, j < i → f j = st.1 u j) → va_P D vwCl (zz_c q cI (zz_up t f st)) H → va_S A s.heap H locs → lv_has ls 3 [(2, .int (nI i)), (0, .ref (q (9 + t))), (1, .ref (q (9 + u)))] → W p l e { frames := 0, cells := 0, slots := 0, locals := 0 } s m args below meth c0 H locs 0 0 (zz_Qv A D cI q (zz_cp t u st) below args s) (F0 m 2 ls []) := by
    intro n
    induction n with
    | zero => intro i h1 h2; exact absurd h1 (by omega)
    | succ n ih =>
      intro i h1 h2 f H locs ls hf hP hS hl
      have hb31 := zz_n_lt t
      have eu : (zz_up t f st).1 u = st.1 u := by unfold zz_up; exact if_neg hne
      refine lv_iload_n hx hb dX5_copyFrom_2 rfl (lv_at hl 0 rfl) ?_
      refine lv_aload_n hx hb dX5_copyFrom_3 rfl (lv_at hl 1 rfl) ?_
      refine zz_getf C zi_X5_copyFrom_5 hP (9 + t) (zz_c_tab ht) rfl 0 (nm := "cells") (ds := "[I") (fin := true) rfl (by decide) zk_X5_copyFrom_13 rfl dX5_copyFrom_4 ?_
      refine va_alen (D := D) (v := zz_l t) hx hb hK hP (33 + t) 0 (zz_c_arr ht) rfl rfl dX5_copyFrom_7 ?_
      refine lv_icmp_ge (tgt := 38) hx hb dX5_copyFrom_8 (by decide) (fun h => ?_) (fun h => ?_)
      · have hi : zz_n t ≤ i := (nI_leI hb31 (by omega)).mp h
        exact zz_retv C hr (zz_P_ext ht hP (fun j hj => hf j (by omega))) hS dX5_copyFrom_38
      · have hi : i < zz_n t := Nat.not_le.mp (fun z => h (nI_le z (by omega)))
        refine lv_iload_n hx hb dX5_copyFrom_11 rfl (lv_at hl 0 rfl) ?_
        refine lv_aload_n hx hb dX5_copyFrom_12 rfl (lv_at hl 2 rfl) ?_
        refine zz_getf C zi_X5_copyFrom_5 hP (9 + u) (zz_c_tab hu) rfl 0 (nm := "cells") (ds := "[I") (fin := true) rfl (by decide) zk_X5_copyFrom_13 rfl dX5_copyFrom_13 ?_
        refine va_alen (D := D) (v := zz_l u) hx hb hK hP (33 + u) 0 (zz_c_arr hu) rfl rfl dX5_copyFrom_16 ?_
        refine lv_icmp_ge (tgt := 38) hx hb dX5_copyFrom_17 (by decide) (fun h => ?_) (fun h => ?_)
        · exact absurd ((nI_leI (zz_n_lt u) (by omega)).mp h) (by omega)
        · refine lv_aload_n hx hb dX5_copyFrom_20 rfl (lv_at hl 1 rfl) ?_
          refine zz_getf C zi_X5_copyFrom_5 hP (9 + t) (zz_c_tab ht) rfl 0 (nm := "cells") (ds := "[I") (fin := true) rfl (by decide) zk_X5_copyFrom_13 rfl dX5_copyFrom_21 ?_
          refine lv_iload_n hx hb dX5_copyFrom_24 rfl (lv_at hl 0 rfl) ?_
          refine lv_aload_n hx hb dX5_copyFrom_25 rfl (lv_at hl 2 rfl) ?_
          refine zz_getf C zi_X5_copyFrom_5 hP (9 + u) (zz_c_tab hu) rfl 0 (nm := "cells") (ds := "[I") (fin := true) rfl (by decide) zk_X5_copyFrom_13 rfl dX5_copyFrom_26 ?_
          refine lv_iload_n hx hb dX5_copyFrom_29 rfl (lv_at hl 0 rfl) ?_
          refine va_iald (D := D) hx hb hK hP (33 + u) 0 (zz_c_arr hu) rfl (vp_in_nI (by omega) (zz_n_lt u)) dX5_copyFrom_30 ?_
          refine va_iast (D := D) hx hb hK hP (C.2.2.2.2.1.va cI _) hS (33 + t) 0 (zz_c_arr ht) rfl (vp_in_nI hi hb31) dX5_copyFrom_31 (fun H1 locs1 hP1 _ hS1 => ?_)
          rw [zz_c_set ht, zz_up_up, zz_up_self, eu, nI_clamp (by omega)] at hP1
          refine lv_iinc (v := nI (i + 1)) (lv' := [(2, .int (nI (i + 1))), (0, .ref (q (9 + t))), (1, .ref (q (9 + u)))]) hx hb dX5_copyFrom_32 hl (k := 0) rfl (nI_1 i) (by decide) rfl (fun ls hl => ?_)
          refine lv_goto (tgt := 2) hx hb dX5_copyFrom_35 (by decide) ?_
          refine ih (i + 1) (by omega) hi _ H1 locs1 ls (fun j hj => ?_) hP1 hS1 hl
          unfold upd
          by_cases hj2 : j = i
          · rw [if_pos hj2, hj2]
          · rw [if_neg hj2]; exact hf j (by omega)
  refine lv_iconst (v := 0) hx hb dX5_copyFrom_0 (by decide) ?_
  refine lv_istore_n (lv' := [(2, .int (nI 0)), (0, .ref (q (9 + t))), (1, .ref (q (9 + u)))]) hx hb dX5_copyFrom_1 rfl hl (by decide) rfl (fun ls hl => ?_)
  have hP0 : va_P D vwCl (zz_c q cI (zz_up t (st.1 t) st)) s.heap := by rw [zz_up_id]; exact hP
  exact loop (zz_n t + 1) 0 (by omega) (Nat.zero_le _) (st.1 t) _ _ ls (fun j hj => absurd hj (Nat.not_lt_zero j)) hP0 hS hl
theorem zd_X5_get : yX5_get.cls = RX5 ∧ yX5_get.cls ≠ "java/lang/invoke/MethodHandle" ∧ yX5_get.cls ≠ "java/lang/invoke/VarHandle" ∧ (parseMethodDescriptor yX5_get.desc).map (fun d => d.parameters.length) = some 2 := by decide +kernel
theorem zd_X5_set : yX5_set.cls = RX5 ∧ yX5_set.cls ≠ "java/lang/invoke/MethodHandle" ∧ yX5_set.cls ≠ "java/lang/invoke/VarHandle" ∧ (parseMethodDescriptor yX5_set.desc).map (fun d => d.parameters.length) = some 3 := by decide +kernel
theorem zd_X5_add : yX5_add.cls = RX5 ∧ yX5_add.cls ≠ "java/lang/invoke/MethodHandle" ∧ yX5_add.cls ≠ "java/lang/invoke/VarHandle" ∧ (parseMethodDescriptor yX5_add.desc).map (fun d => d.parameters.length) = some 3 := by decide +kernel
theorem zd_X5_fill : yX5_fill.cls = RX5 ∧ yX5_fill.cls ≠ "java/lang/invoke/MethodHandle" ∧ yX5_fill.cls ≠ "java/lang/invoke/VarHandle" ∧ (parseMethodDescriptor yX5_fill.desc).map (fun d => d.parameters.length) = some 1 := by decide +kernel
theorem zd_X5_copyFrom : yX5_copyFrom.cls = RX5 ∧ yX5_copyFrom.cls ≠ "java/lang/invoke/MethodHandle" ∧ yX5_copyFrom.cls ≠ "java/lang/invoke/VarHandle" ∧ (parseMethodDescriptor yX5_copyFrom.desc).map (fun d => d.parameters.length) = some 1 := by decide +kernel
/-! UNITS: its three tables that nobody writes -/
theorem zd_X7_weightOf : yX7_weightOf.cls = RX7 ∧ yX7_weightOf.cls ≠ "java/lang/invoke/MethodHandle" ∧ yX7_weightOf.cls ≠ "java/lang/invoke/VarHandle" ∧ (parseMethodDescriptor yX7_weightOf.desc).map (fun d => d.parameters.length) = some 1 := by decide +kernel
abbrev zr_X7_weightOf : Room := { frames := 0, cells := 0, slots := 0, locals := 0 }
theorem zk_X7_weightOf : Cond.fieldLink yX7_weightOf.cls 27 "ThirteenthDay$Units" "WEIGHTS" "[I" ∈ wsX7_weightOf := by decide +kernel
def zX7_weightOf (v0 : Int32) (_ : zz_T) : Int32 := if v0 < 0 then 0 else if 5 ≤ v0 then 0 else zz_wt 0 v0.toNatClampNeg
set_option maxHeartbeats 4000000 in
set_option maxRecDepth 100000 in
theorem zc_X7_weightOf {l : Launch} {A : Nat → Prop} {D : va_G} {cI : ClassId} {q : Nat → Nat} (v0 : Int32) (st : zz_T) : zz_Mi l A D cI q yX7_weightOf wsX7_weightOf zr_X7_weightOf [.int v0] st (zX7_weightOf v0 st) st := by
  refine zz_of (cc := cX7_weightOf) (nL := 1) (ret := some .int) (by decide) rfl (Nat.le_of_ble_eq_true rfl) ?_
  intro p e s m args below meth c0 ls C hr hP hS hl
  obtain ⟨⟨hx, hb, hml, hown, hts⟩, hlocks, hA, hK, hD, hE⟩ := id C
  have hl : lv_has ls 1 [(0, .int v0)] := hl
  obtain ⟨t, hZ, hT⟩ := hE.1
  refine lv_iload_n hx hb dX7_weightOf_0 rfl (lv_at hl 0 rfl) ?_
  refine lv_if_lt (tgt := 20) hx hb dX7_weightOf_1 (by decide) (fun h => ?_) (fun h1 => ?_)
  · refine lv_iconst (v := 0) hx hb dX7_weightOf_20 (by decide) ?_
    rw [show zX7_weightOf v0 st = 0 from if_pos h]
    exact zz_reti C hr hP hS dX7_weightOf_21
  · refine lv_iload_n hx hb dX7_weightOf_4 rfl (lv_at hl 0 rfl) ?_
    refine va_gets hx hb hZ hS hown (hts _ zk_X7_weightOf) (fun _ h => h) dX7_weightOf_5 ?_
    refine va_tlen (v := 5) hx hb hT hS (by decide) dX7_weightOf_8 ?_
    refine lv_icmp_ge (tgt := 20) hx hb dX7_weightOf_9 (by decide) (fun h => ?_) (fun h2 => ?_)
    · refine lv_iconst (v := 0) hx hb dX7_weightOf_20 (by decide) ?_
      rw [show zX7_weightOf v0 st = 0 by unfold zX7_weightOf; rw [if_neg h1, if_pos h]]
      exact zz_reti C hr hP hS dX7_weightOf_21
    · refine va_gets hx hb hZ hS hown (hts _ zk_X7_weightOf) (fun _ h => h) dX7_weightOf_12 ?_
      refine lv_iload_n hx hb dX7_weightOf_15 rfl (lv_at hl 0 rfl) ?_
      have hin : vp_in v0 5 := by
        obtain ⟨j, hj, hx9, -, hc, -⟩ := pk_mu (x := v0) (L := 5) h1 h2 (by decide)
        rintro (q9 | q9)
        · exact h1 q9
        · omega
      refine va_ti hx hb hT hS hin rfl dX7_weightOf_16 ?_
      refine lv_goto (tgt := 21) hx hb dX7_weightOf_17 (by decide) ?_
      rw [show zX7_weightOf v0 st = zz_wt 0 v0.toNatClampNeg by unfold zX7_weightOf; rw [if_neg h1, if_neg h2]]
      exact zz_reti C hr hP hS dX7_weightOf_21
theorem zd_X7_unloadingOf : yX7_unloadingOf.cls = RX7 ∧ yX7_unloadingOf.cls ≠ "java/lang/invoke/MethodHandle" ∧ yX7_unloadingOf.cls ≠ "java/lang/invoke/VarHandle" ∧ (parseMethodDescriptor yX7_unloadingOf.desc).map (fun d => d.parameters.length) = some 1 := by decide +kernel
abbrev zr_X7_unloadingOf : Room := { frames := 0, cells := 0, slots := 0, locals := 0 }
theorem zk_X7_unloadingOf : Cond.fieldLink yX7_unloadingOf.cls 31 "ThirteenthDay$Units" "UNLOADINGS" "[I" ∈ wsX7_unloadingOf := by decide +kernel
def zX7_unloadingOf (v0 : Int32) (_ : zz_T) : Int32 := if v0 < 0 then 0 else if 5 ≤ v0 then 0 else zz_wt 1 v0.toNatClampNeg
set_option maxHeartbeats 4000000 in
set_option maxRecDepth 100000 in
theorem zc_X7_unloadingOf {l : Launch} {A : Nat → Prop} {D : va_G} {cI : ClassId} {q : Nat → Nat} (v0 : Int32) (st : zz_T) : zz_Mi l A D cI q yX7_unloadingOf wsX7_unloadingOf zr_X7_unloadingOf [.int v0] st (zX7_unloadingOf v0 st) st := by
  refine zz_of (cc := cX7_unloadingOf) (nL := 1) (ret := some .int) (by decide) rfl (Nat.le_of_ble_eq_true rfl) ?_
  intro p e s m args below meth c0 ls C hr hP hS hl
  obtain ⟨⟨hx, hb, hml, hown, hts⟩, hlocks, hA, hK, hD, hE⟩ := id C
  have hl : lv_has ls 1 [(0, .int v0)] := hl
  obtain ⟨t, hZ, hT⟩ := hE.2.1
  refine lv_iload_n hx hb dX7_unloadingOf_0 rfl (lv_at hl 0 rfl) ?_
  refine lv_if_lt (tgt := 20) hx hb dX7_unloadingOf_1 (by decide) (fun h => ?_) (fun h1 => ?_)
  · refine lv_iconst (v := 0) hx hb dX7_unloadingOf_20 (by decide) ?_
    rw [show zX7_unloadingOf v0 st = 0 from if_pos h]
    exact zz_reti C hr hP hS dX7_unloadingOf_21
  · refine lv_iload_n hx hb dX7_unloadingOf_4 rfl (lv_at hl 0 rfl) ?_
    refine va_gets hx hb hZ hS hown (hts _ zk_X7_unloadingOf) (fun _ h => h) dX7_unloadingOf_5 ?_
    refine va_tlen (v := 5) hx hb hT hS (by decide) dX7_unloadingOf_8 ?_
    refine lv_icmp_ge (tgt := 20) hx hb dX7_unloadingOf_9 (by decide) (fun h => ?_) (fun h2 => ?_)
    · refine lv_iconst (v := 0) hx hb dX7_unloadingOf_20 (by decide) ?_
      rw [show zX7_unloadingOf v0 st = 0 by unfold zX7_unloadingOf; rw [if_neg h1, if_pos h]]
      exact zz_reti C hr hP hS dX7_unloadingOf_21
    · refine va_gets hx hb hZ hS hown (hts _ zk_X7_unloadingOf) (fun _ h => h) dX7_unloadingOf_12 ?_
      refine lv_iload_n hx hb dX7_unloadingOf_15 rfl (lv_at hl 0 rfl) ?_
      have hin : vp_in v0 5 := by
        obtain ⟨j, hj, hx9, -, hc, -⟩ := pk_mu (x := v0) (L := 5) h1 h2 (by decide)
        rintro (q9 | q9)
        · exact h1 q9
        · omega
      refine va_ti hx hb hT hS hin rfl dX7_unloadingOf_16 ?_
      refine lv_goto (tgt := 21) hx hb dX7_unloadingOf_17 (by decide) ?_
      rw [show zX7_unloadingOf v0 st = zz_wt 1 v0.toNatClampNeg by unfold zX7_unloadingOf; rw [if_neg h1, if_neg h2]]
      exact zz_reti C hr hP hS dX7_unloadingOf_21
theorem zd_X7_workOf : yX7_workOf.cls = RX7 ∧ yX7_workOf.cls ≠ "java/lang/invoke/MethodHandle" ∧ yX7_workOf.cls ≠ "java/lang/invoke/VarHandle" ∧ (parseMethodDescriptor yX7_workOf.desc).map (fun d => d.parameters.length) = some 1 := by decide +kernel
abbrev zr_X7_workOf : Room := { frames := 0, cells := 0, slots := 0, locals := 0 }
theorem zk_X7_workOf : Cond.fieldLink yX7_workOf.cls 34 "ThirteenthDay$Units" "WORKS" "[I" ∈ wsX7_workOf := by decide +kernel
def zX7_workOf (v0 : Int32) (_ : zz_T) : Int32 := if v0 < 0 then 0 else if 5 ≤ v0 then 0 else zz_wt 2 v0.toNatClampNeg
set_option maxHeartbeats 4000000 in
set_option maxRecDepth 100000 in
theorem zc_X7_workOf {l : Launch} {A : Nat → Prop} {D : va_G} {cI : ClassId} {q : Nat → Nat} (v0 : Int32) (st : zz_T) : zz_Mi l A D cI q yX7_workOf wsX7_workOf zr_X7_workOf [.int v0] st (zX7_workOf v0 st) st := by
  refine zz_of (cc := cX7_workOf) (nL := 1) (ret := some .int) (by decide) rfl (Nat.le_of_ble_eq_true rfl) ?_
  intro p e s m args below meth c0 ls C hr hP hS hl
  obtain ⟨⟨hx, hb, hml, hown, hts⟩, hlocks, hA, hK, hD, hE⟩ := id C
  have hl : lv_has ls 1 [(0, .int v0)] := hl
  obtain ⟨t, hZ, hT⟩ := hE.2.2.1
  refine lv_iload_n hx hb dX7_workOf_0 rfl (lv_at hl 0 rfl) ?_
  refine lv_if_lt (tgt := 20) hx hb dX7_workOf_1 (by decide) (fun h => ?_) (fun h1 => ?_)
  · refine lv_iconst (v := 0) hx hb dX7_workOf_20 (by decide) ?_
    rw [show zX7_workOf v0 st = 0 from if_pos h]
    exact zz_reti C hr hP hS dX7_workOf_21
  · refine lv_iload_n hx hb dX7_workOf_4 rfl (lv_at hl 0 rfl) ?_
    refine va_gets hx hb hZ hS hown (hts _ zk_X7_workOf) (fun _ h => h) dX7_workOf_5 ?_
    refine va_tlen (v := 5) hx hb hT hS (by decide) dX7_workOf_8 ?_
    refine lv_icmp_ge (tgt := 20) hx hb dX7_workOf_9 (by decide) (fun h => ?_) (fun h2 => ?_)
    · refine lv_iconst (v := 0) hx hb dX7_workOf_20 (by decide) ?_
      rw [show zX7_workOf v0 st = 0 by unfold zX7_workOf; rw [if_neg h1, if_pos h]]
      exact zz_reti C hr hP hS dX7_workOf_21
    · refine va_gets hx hb hZ hS hown (hts _ zk_X7_workOf) (fun _ h => h) dX7_workOf_12 ?_
      refine lv_iload_n hx hb dX7_workOf_15 rfl (lv_at hl 0 rfl) ?_
      have hin : vp_in v0 5 := by
        obtain ⟨j, hj, hx9, -, hc, -⟩ := pk_mu (x := v0) (L := 5) h1 h2 (by decide)
        rintro (q9 | q9)
        · exact h1 q9
        · omega
      refine va_ti hx hb hT hS hin rfl dX7_workOf_16 ?_
      refine lv_goto (tgt := 21) hx hb dX7_workOf_17 (by decide) ?_
      rw [show zX7_workOf v0 st = zz_wt 2 v0.toNatClampNeg by unfold zX7_workOf; rw [if_neg h1, if_neg h2]]
      exact zz_reti C hr hP hS dX7_workOf_21
