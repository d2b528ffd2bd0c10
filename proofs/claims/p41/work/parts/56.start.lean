/-! PURE: one act; the start -/
theorem zb_bw (v : Int32) {n : Nat} (h0 : 0 < n) (hn : n < 2 ^ 31) : zp_bl n (zL_bw v (nI n)) := by
  unfold zL_bw
  obtain ⟨j, hj, e⟩ := pk_andE v (m := 2147483647) 31 (by decide)
  rw [e, pk_rem hj h0 hn]
  exact ⟨j % n, Nat.mod_lt _ h0, rfl⟩
theorem zi_I_up {f : Nat → Int32} {e T : Nat} {s : zz_T} (h : zi_I f e T s) : zi_I f (e + 1) T s := by
  obtain ⟨⟨n1, n2, n3, n4, n5, n6, ⟨x, hx1, hx2⟩, n8⟩, hL, hU, hX, hS, hK, r⟩ := h
  exact ⟨⟨n1, n2, n3, n4, n5, n6, ⟨x, by omega, hx2⟩, n8⟩, hL, hU, hX, hS, ⟨hK.1, fun w hw => ⟨by obtain ⟨y, h1, h2⟩ := (hK.2 w hw).1; exact ⟨y, by omega, h2⟩, (hK.2 w hw).2⟩⟩, r⟩
theorem zy_many0 (st : zz_T) : zX8_many 0 st = some (st.2 0) := by
  unfold zX8_many
  rw [if_neg (by decide), if_pos (by decide)]
  unfold zX8_manyFact
  rw [if_pos rfl]
  rfl
theorem zy_many5 (st : zz_T) : zX8_many 5 st = some (st.2 5) := by
  unfold zX8_many
  rw [if_neg (by decide), if_pos (by decide)]
  unfold zX8_manyFact
  rw [if_neg (by decide), if_neg (by decide), if_neg (by decide), if_neg (by decide), if_neg (by decide), if_pos rfl]
  rfl
theorem zy_act {f : Nat → Int32} {e : Nat} {st : zz_T} (he : e ≤ 1000) (H : ∃ T, zi_I f e T st) (v1 v2 : Int32) : zp_ok (zL_act v1 v2 st) (fun x => ∃ T, zi_I f (e + 1) T x) := by
  obtain ⟨T, hT⟩ := id H
  have one : ∀ {o : Option (Option Int32 × zz_T)}, zp_ok o (fun x => zi_I f e T x.2) → zp_ok (o.bind fun x => some x.2) (fun x => ∃ T, zi_I f (e + 1) T x) := fun h => h.bind (fun x hx => .ret ⟨T, zi_I_up hx⟩)
  unfold zL_act
  rw [zy_many0]
  show zp_ok (if _ then _ else _) _
  refine zp_ite (fun _ => one (za_order hT _)) (fun _ => zp_ite (fun _ => one (za_order hT _)) (fun _ => zp_ite (fun _ => one (za_plan hT _ _)) (fun _ => zp_ite (fun _ => one (za_plan hT _ _)) (fun _ => zp_ite (fun _ => one (za_plan hT _ _)) (fun _ => zp_ite (fun _ => one (za_stop hT _)) (fun _ => zp_ite (fun _ => one (za_change hT _)) (fun _ => zp_ite (fun _ => one (za_aim hT _ _ _)) (fun _ => zp_ite (fun _ => ?_) (fun _ => zp_ite (fun _ => one (za_bridge hT _)) (fun _ => zp_ite (fun _ => one (za_foul hT _ _)) (fun _ => zp_ite (fun _ => ?_) (fun _ => zp_ite (fun _ => one (za_foe hT _ _ _ _)) (fun _ => ?_)))))))))))))
  · exact (za_supply he hT _ _).bind (fun x hx => .ret ⟨T, hx⟩)
  · rw [zy_many5]
    exact one (za_box hT _ _)
  · exact (za_pass H _).bind (fun x hx => .ret (by obtain ⟨T', h⟩ := hx; exact ⟨T', zi_I_up h⟩))
/-! the start -/
theorem zn_6 : ∀ a, a < 54 → zn_pf 54 (a * 7) = -1 := by decide +kernel
theorem zn_zero {t : Nat} (h6 : t ≠ 6) (h11 : t ≠ 11) (h19 : t ≠ 19) : zn_0.1 t = fun _ => 0 := by
  unfold zn_0
  dsimp only
  split
  · exact absurd rfl h6
  · exact absurd rfl h11
  · exact absurd rfl h19
  · rfl
theorem zn_g0 {t : Nat} (h6 : t ≠ 6) (h11 : t ≠ 11) (h19 : t ≠ 19) (r c : Int32) : zz_g t r c zn_0 = 0 := by
  unfold zz_g
  rw [zn_zero h6 h11 h19]
  split <;> rfl
theorem zn_free {a : Nat} (ha : a < 54) : zz_g 6 (nI a) 0 zn_0 = -1 := by
  rw [show (0 : Int32) = nI 0 from rfl, zp_g (t := 6) (by decide) (show a < zp_R 6 from ha) (by decide)]
  exact zn_6 a ha
/-- what stands before UNITS are told -/
def zs_0 (j : Nat) (st : zz_T) : Prop := zp_F [0, 1, 2, 3, 19] [2, 3] zn_0 st ∧ zi_land st ∧ ∀ s, s < j → zp_bl 6 (zz_g 19 (nI s) 0 st)
theorem zs_noPath {st : zz_T} (h : ∀ a, a < 54 → zz_g 6 (nI a) 0 st = -1) (v : Int32) : zX2_hasFor 6 v st = some false := by
  have : zp_ok (zX2_hasFor 6 v st) (fun r => r = false) := by
    unfold zX2_hasFor
    refine zp_loop0 (F := fun n x (_ : Unit) => zX2_hasFor_2 6 n v x st) (N := 54) (by decide) (fun _ _ => True) (fun n _ _ => ?_) (fun n k _ hk _ ih => ?_) (s := ()) trivial
    · rw [zX2_hasFor_2, if_pos (by decide)]; exact .ret rfl
    · rw [zX2_hasFor_2, if_neg (show ¬ (54 : Int32) ≤ nI k from nI_ge (a := k) (b := 54) hk (by decide)), if_neg (fun q => ((zr_isKept 6 k st).mp q) (h k hk))]
      exact ih () trivial
  obtain ⟨r, e, hr⟩ := this
  rw [e, hr]
theorem zs_rail {j a b : Nat} {st : zz_T} (hj : j < 3) (ha : a < 6) (hb : b < 60) (H : zs_0 j st) : zp_ok (zX8_railhead (nI j) (nI a) (6 + nI b) st) (fun x => zs_0 (j + 1) x.2) := by
  obtain ⟨hF, hL, hr⟩ := H
  have n1 : zX8_isNoSector (nI j) st = false := by
    unfold zX8_isNoSector
    rw [if_neg (nI_pos (by omega)), if_pos (show nI j < 3 from nI_lt (b := 3) hj (by decide))]
  have n2 : zX1_hasStation (nI a) st = true := by
    unfold zX1_hasStation
    rw [if_neg (nI_pos (by omega)), hL.1, if_neg (nI_ge ha (by decide))]
  have n3 : zX6_hasFor (nI j) st = some false := by
    unfold zX6_hasFor
    show zX6_hasFor_2 (999 + 1) (nI j) 0 st = _
    rw [zX6_hasFor_2, show st.2 5 = 0 from hF.s (by decide), if_pos (Int32.le_refl _)]
  have e6 : (6 : Int32) + nI b = nI (6 + b) := nI_add 6 b
  unfold zX8_railhead
  rw [n1, if_neg (by decide), n2, if_pos rfl, e6, if_neg (show ¬ nI (6 + b) < 6 from nI_nlt (b := 6) (by omega) (by omega)), if_pos (show nI (6 + b) ≤ 144 from nI_le (b := 144) (by omega) (by decide)), zs_noPath (fun x hx => by rw [hF.g (by decide)]; exact zn_free hx), n3]
  show zp_ok (zz_v _ _) _
  simp only [zz_v]
  have F2 : zp_F [19] [] st (zX3_set (nI j) 1 (nI (6 + b)) (zX3_set (nI j) 0 (nI a) st)) := (zp_F.rfl.set (t := 19) (by decide)).set (t := 19) (by decide)
  refine .ret ⟨hF.trans (F2.mono (by decide) (by decide)), ?_, fun s hs => ?_⟩
  · obtain ⟨l1, l2, l3, l4, l5⟩ := hL
    refine ⟨(F2.s (by decide)).trans l1, (F2.s (by decide)).trans l2, fun r hr => ?_, fun l hl => ?_, zp_all.F F2 (by decide) l5⟩
    · obtain ⟨p1, p2, p3⟩ := l3 r hr
      exact ⟨(F2.g (by decide) _ _).trans p1, (F2.g (by decide) _ _).trans p2, (F2.g (by decide) _ _).trans p3⟩
    · obtain ⟨p1, p2, p3, p4⟩ := l4 l hl
      exact ⟨by rw [F2.g (by decide)]; exact p1, by rw [F2.g (by decide)]; exact p2, by rw [F2.g (by decide)]; exact p3, by rw [F2.g (by decide)]; exact p4⟩
  · show zp_bl 6 (zz_g 19 (nI s) 0 (zz_set 19 (nI j) 1 (nI (6 + b)) (zz_set 19 (nI j) 0 (nI a) st)))
    rw [zg19 hj (by omega) (by decide) (by decide), if_neg (fun q => absurd q.2 (by decide)), zg19 hj (by omega) (by decide) (by decide)]
    by_cases q : s = j
    · rw [if_pos ⟨q, rfl⟩]; exact ⟨a, ha, rfl⟩
    · rw [if_neg (fun r => q r.1)]; exact hr s (by omega)
theorem zs_rails {L : Nat} {sc : Nat → Int32} : ∀ (d k : Nat) (st : zz_T), k + d = 3 → zs_0 k st → zp_ok (zL_rail L sc d k st) (fun x => zs_0 3 x) := by
  intro d
  induction d with
  | zero =>
    intro k st hk H
    obtain rfl : k = 3 := by omega
    exact .ret H
  | succ d ih =>
    intro k st hk H
    rw [zL_rail]
    obtain ⟨a, ha, ea⟩ := zb_bw (zL_cell L sc (nI k + 3)) (n := 6) (by decide) (by decide)
    obtain ⟨b, hb, eb⟩ := zb_bw (zL_cell L sc (nI k + 6)) (n := 60) (by decide) (by decide)
    rw [show zL_bw (zL_cell L sc (nI k + 3)) 6 = nI a from ea, show zL_bw (zL_cell L sc (nI k + 6)) 60 = nI b from eb]
    exact (zs_rail (by omega) ha hb H).bind (fun x hx => ih (k + 1) x.2 (by omega) hx)
/-- what stands as j UNITS are told -/
def zs_u (f : Nat → Int32) (j : Nat) (st : zz_T) : Prop := zp_F [0, 1, 2, 3, 19, 4, 23] [2, 3, 4] zn_0 st ∧ zi_land st ∧ (∀ s, s < 3 → zp_bl 6 (zz_g 19 (nI s) 0 st)) ∧ st.2 4 = nI j ∧ zp_all 23 (zp_bl 3) st ∧ (∀ u, u < 6 → ∀ c : Int32, c = 6 ∨ c = 7 ∨ c = 8 ∨ c = 9 → zz_g 4 (nI u) c st = 0) ∧
  ∀ u, u < j → (zz_g 4 (nI u) 0 st = f u ∧ zp_bl 5 (f u)) ∧ (∃ L, 1 ≤ L ∧ L ≤ 8 ∧ zz_g 4 (nI u) 1 st = nI L) ∧ zp_bl 6 (zz_g 4 (nI u) 2 st) ∧ zp_bl 3 (zz_g 4 (nI u) 3 st)
theorem zs_land_F {ts ks : List Nat} {a b : zz_T} (h : zp_F ts ks a b) (h0 : 0 ∉ ts) (h1 : 1 ∉ ts) (h3 : 3 ∉ ts) (k2 : 2 ∉ ks) (k3 : 3 ∉ ks) (H : zi_land a) : zi_land b := by
  obtain ⟨l1, l2, l3, l4, l5⟩ := H
  refine ⟨(h.s k2).trans l1, (h.s k3).trans l2, fun r hr => ?_, fun l hl => ?_, zp_all.F h h3 l5⟩
  · obtain ⟨p1, p2, p3⟩ := l3 r hr
    exact ⟨(h.g h0 _ _).trans p1, (h.g h0 _ _).trans p2, (h.g h0 _ _).trans p3⟩
  · obtain ⟨p1, p2, p3, p4⟩ := l4 l hl
    exact ⟨by rw [h.g h1]; exact p1, by rw [h.g h1]; exact p2, by rw [h.g h1]; exact p3, by rw [h.g h1]; exact p4⟩
theorem zy_v {α β : Type} (a : α) (f : α → β) : zz_v a f = f a := rfl
theorem zs_add {j : Nat} {v1 v2 v3 v4 : Int32} {st : zz_T} (h4 : st.2 4 = nI j) : zX7_add v1 v2 v3 v4 st = (nI j, zz_S 4 (nI (j + 1)) (zz_set 4 (nI j) 11 (-1) (zz_set 4 (nI j) 10 (-1) (zz_set 4 (nI j) 5 (-1) (zz_set 4 (nI j) 3 v4 (zz_set 4 (nI j) 2 v3 (zz_set 4 (nI j) 1 v2 (zz_set 4 (nI j) 0 v1 st)))))))) := by
  unfold zX7_add
  simp only [zz_v, zp_s2, h4, nI_1]
theorem zs_unit {f : Nat → Int32} {j k l h s : Nat} {st : zz_T} (hj : j < 6) (hk : k < 5) (hl : l < 5) (hh : h < 6) (hs : s < 3) (H : zs_u f j st) : zp_ok (zX8_unit (nI k) (1 + nI l) (nI h) (nI s) st) (fun x => zs_u (upd f j (nI k)) (j + 1) x.2) := by
  obtain ⟨hF, hL, hr, h4, h23, hz, hu⟩ := H
  have n1 : zX8_isNoSector (nI s) st = false := by
    unfold zX8_isNoSector
    rw [if_neg (nI_pos (by omega)), if_pos (show nI s < 3 from nI_lt (b := 3) hs (by decide))]
  have n2 : zX1_hasStation (nI h) st = true := by
    unfold zX1_hasStation
    rw [if_neg (nI_pos (by omega)), hL.1, if_neg (nI_ge hh (by decide))]
  have e1 : (1 : Int32) + nI l = nI (1 + l) := nI_add 1 l
  unfold zX8_unit
  rw [n2, if_pos rfl, n1, if_neg (by decide), if_neg (nI_pos (by omega)), if_pos (show nI k ≤ 4 from nI_le (b := 4) (by omega) (by decide)), e1, if_neg (show ¬ nI (1 + l) < 1 from nI_nlt (b := 1) (by omega) (by omega)), if_pos (show nI (1 + l) ≤ 8 from nI_le (b := 8) (by omega) (by decide)), show zX7_count st = nI j from h4, if_pos (show nI j < 6 from nI_lt (b := 6) hj (by decide))]
  rw [zy_v, zs_add h4]
  obtain ⟨a, ea⟩ : ∃ a, a = zz_S 4 (nI (j + 1)) (zz_set 4 (nI j) 11 (-1) (zz_set 4 (nI j) 10 (-1) (zz_set 4 (nI j) 5 (-1) (zz_set 4 (nI j) 3 (nI s) (zz_set 4 (nI j) 2 (nI h) (zz_set 4 (nI j) 1 (nI (1 + l)) (zz_set 4 (nI j) 0 (nI k) st))))))) := ⟨_, rfl⟩
  rw [← ea]
  have Fa : zp_F [4] [4] st a := by rw [ea]; exact (((((((zp_F.rfl.set (by decide)).set (by decide)).set (by decide)).set (by decide)).set (by decide)).set (by decide)).set (by decide)).S (by decide)
  have a4 : a.2 4 = nI (j + 1) := by rw [ea, zp_SS, if_pos rfl]
  have gn : ∀ u, u < 6 → u ≠ j → ∀ c : Int32, 0 ≤ c ∧ c < 13 → zz_g 4 (nI u) c a = zz_g 4 (nI u) c st := fun u hu hne c hc => by
    rw [ea, zp_gS, zg4 hj hu (by decide) hc, if_neg (fun q => hne q.1), zg4 hj hu (by decide) hc, if_neg (fun q => hne q.1), zg4 hj hu (by decide) hc, if_neg (fun q => hne q.1), zg4 hj hu (by decide) hc, if_neg (fun q => hne q.1), zg4 hj hu (by decide) hc, if_neg (fun q => hne q.1), zg4 hj hu (by decide) hc, if_neg (fun q => hne q.1), zg4 hj hu (by decide) hc, if_neg (fun q => hne q.1)]
  have g3 : zz_g 4 (nI j) 3 a = nI s := by rw [ea, zp_gS, zg4 hj hj (by decide) (by decide), if_neg (fun q => absurd q.2 (by decide)), zg4 hj hj (by decide) (by decide), if_neg (fun q => absurd q.2 (by decide)), zg4 hj hj (by decide) (by decide), if_neg (fun q => absurd q.2 (by decide)), zg4 hj hj (by decide) (by decide), if_pos ⟨rfl, rfl⟩]
  have g2 : zz_g 4 (nI j) 2 a = nI h := by rw [ea, zp_gS, zg4 hj hj (by decide) (by decide), if_neg (fun q => absurd q.2 (by decide)), zg4 hj hj (by decide) (by decide), if_neg (fun q => absurd q.2 (by decide)), zg4 hj hj (by decide) (by decide), if_neg (fun q => absurd q.2 (by decide)), zg4 hj hj (by decide) (by decide), if_neg (fun q => absurd q.2 (by decide)), zg4 hj hj (by decide) (by decide), if_pos ⟨rfl, rfl⟩]
  have g1 : zz_g 4 (nI j) 1 a = nI (1 + l) := by rw [ea, zp_gS, zg4 hj hj (by decide) (by decide), if_neg (fun q => absurd q.2 (by decide)), zg4 hj hj (by decide) (by decide), if_neg (fun q => absurd q.2 (by decide)), zg4 hj hj (by decide) (by decide), if_neg (fun q => absurd q.2 (by decide)), zg4 hj hj (by decide) (by decide), if_neg (fun q => absurd q.2 (by decide)), zg4 hj hj (by decide) (by decide), if_neg (fun q => absurd q.2 (by decide)), zg4 hj hj (by decide) (by decide), if_pos ⟨rfl, rfl⟩]
  have g0 : zz_g 4 (nI j) 0 a = nI k := by rw [ea, zp_gS, zg4 hj hj (by decide) (by decide), if_neg (fun q => absurd q.2 (by decide)), zg4 hj hj (by decide) (by decide), if_neg (fun q => absurd q.2 (by decide)), zg4 hj hj (by decide) (by decide), if_neg (fun q => absurd q.2 (by decide)), zg4 hj hj (by decide) (by decide), if_neg (fun q => absurd q.2 (by decide)), zg4 hj hj (by decide) (by decide), if_neg (fun q => absurd q.2 (by decide)), zg4 hj hj (by decide) (by decide), if_neg (fun q => absurd q.2 (by decide)), zg4 hj hj (by decide) (by decide), if_pos ⟨rfl, rfl⟩]
  have gz : ∀ u, u < 6 → ∀ c : Int32, c = 6 ∨ c = 7 ∨ c = 8 ∨ c = 9 → zz_g 4 (nI u) c a = 0 := fun u hu c hc => by
    have hc13 : 0 ≤ c ∧ c < 13 := by rcases hc with rfl | rfl | rfl | rfl <;> decide
    have n : ∀ x : Int32, x = 0 ∨ x = 1 ∨ x = 2 ∨ x = 3 ∨ x = 5 ∨ x = 10 ∨ x = 11 → c ≠ x := fun x hx => by
      rcases hc with rfl | rfl | rfl | rfl <;> rcases hx with rfl | rfl | rfl | rfl | rfl | rfl | rfl <;> decide
    rw [ea, zp_gS, zg4 hj hu (by decide) hc13, if_neg (fun q => n 11 (by simp) q.2), zg4 hj hu (by decide) hc13, if_neg (fun q => n 10 (by simp) q.2), zg4 hj hu (by decide) hc13, if_neg (fun q => n 5 (by simp) q.2), zg4 hj hu (by decide) hc13, if_neg (fun q => n 3 (by simp) q.2), zg4 hj hu (by decide) hc13, if_neg (fun q => n 2 (by simp) q.2), zg4 hj hu (by decide) hc13, if_neg (fun q => n 1 (by simp) q.2), zg4 hj hu (by decide) hc13, if_neg (fun q => n 0 (by simp) q.2)]
    exact hz u hu c hc
  refine zp_loop0 (F := fun n x (y : zz_T) => zX8_unit_118 n (nI s) (nI j) x y) (N := 4) (by decide) (fun _ y => zp_F [23] [] a y ∧ zp_all 23 (zp_bl 3) y) (fun n y hy => ?_) (fun n i y hi hy ih => ?_) ⟨.rfl, zp_all.F Fa (by decide) h23⟩
  · rw [zX8_unit_118, if_pos (by decide)]
    obtain ⟨Fy, hy23⟩ := hy
    have F1 : zp_F [4, 23] [4] st y := (Fa.mono (by decide) (by decide)).trans (Fy.mono (by decide) (by decide))
    refine .ret ⟨hF.trans (F1.mono (by decide) (by decide)), zs_land_F F1 (by decide) (by decide) (by decide) (by decide) (by decide) hL, fun x hx => by rw [F1.g (by decide)]; exact hr x hx, (Fy.s (by decide)).trans a4, hy23, fun u hu c hc => by rw [Fy.g (by decide)]; exact gz u hu c hc, fun u hu' => ?_⟩
    rw [Fy.g (by decide), Fy.g (by decide), Fy.g (by decide), Fy.g (by decide)]
    by_cases q : u = j
    · subst q
      rw [g0, g1, g2, g3]
      exact ⟨⟨by simp [upd], by simp only [upd, if_true]; exact ⟨k, hk, rfl⟩⟩, ⟨1 + l, by omega, by omega, rfl⟩, ⟨h, hh, rfl⟩, ⟨s, hs, rfl⟩⟩
    · obtain ⟨⟨p1, p2⟩, p3, p4, p5⟩ := hu u (by omega)
      have eu : upd f j (nI k) u = f u := by simp [upd, q]
      rw [gn u (by omega) q 0 (by decide), gn u (by omega) q 1 (by decide), gn u (by omega) q 2 (by decide), gn u (by omega) q 3 (by decide), eu]
      exact ⟨⟨p1, p2⟩, p3, p4, p5⟩
  · rw [zX8_unit_118, if_neg (show ¬ (4 : Int32) ≤ nI i from nI_ge (a := i) (b := 4) hi (by decide))]
    simp only [zz_v]
    exact ih _ ⟨hy.1.set (by decide), hy.2.set ⟨s, hs, rfl⟩⟩
theorem zs_units {L : Nat} {sc : Nat → Int32} : ∀ (d k : Nat) (f : Nat → Int32) (st : zz_T), k + d = 6 → zs_u f k st → zp_ok (zL_units L sc d k f st) (fun x => zs_u x.1 6 x.2) := by
  intro d
  induction d with
  | zero =>
    intro k f st hk H
    obtain rfl : k = 6 := by omega
    exact .ret H
  | succ d ih =>
    intro k f st hk H
    rw [zL_units]
    obtain ⟨a, ha, ea⟩ := zb_bw (zL_cell L sc (nI k + 2)) (n := 5) (by decide) (by decide)
    obtain ⟨b, hb, eb⟩ := zb_bw (zL_cell L sc (nI k + 5)) (n := 5) (by decide) (by decide)
    obtain ⟨c, hc, ec⟩ := zb_bw (zL_cell L sc (nI k + 8)) (n := 6) (by decide) (by decide)
    obtain ⟨s, hs, es⟩ := zb_bw (zL_cell L sc (nI k)) (n := 3) (by decide) (by decide)
    rw [show zL_bw (zL_cell L sc (nI k + 2)) 5 = nI a from ea, show zL_bw (zL_cell L sc (nI k + 5)) 5 = nI b from eb, show zL_bw (zL_cell L sc (nI k + 8)) 6 = nI c from ec, show zL_bw (zL_cell L sc (nI k)) 3 = nI s from es, show upd f k (nI a) k = nI a from by simp [upd]]
    exact (zs_unit (by omega) ha hb hc hs H).bind (fun x hx => ih (k + 1) _ x.2 (by omega) hx)
theorem zs_I {f : Nat → Int32} {st : zz_T} (H : zs_u f 6 st) : zi_I f 0 0 st := by
  obtain ⟨hF, hL, hr, h4, h23, hz, hu⟩ := H
  obtain ⟨l1, l2, l3, l4, l5⟩ := hL
  have free : ∀ a, a < 54 → ¬ zi_kept 6 a st := fun a ha q => q (by rw [hF.g (by decide)]; exact zn_free ha)
  have z5 : ∀ r c, zz_g 5 r c st = 0 := fun r c => by rw [hF.g (by decide)]; exact zn_g0 (by decide) (by decide) (by decide) r c
  have z18 : ∀ r c, zz_g 18 r c st = 0 := fun r c => by rw [hF.g (by decide)]; exact zn_g0 (by decide) (by decide) (by decide) r c
  refine ⟨⟨l1, l2, h4, hF.s (by decide), by omega, ⟨0, by omega, hF.s (by decide)⟩, ⟨0, Nat.le_refl _, hF.s (by decide)⟩, hF.s (by decide)⟩, ⟨fun r hr => ⟨(l3 r hr).1, (l3 r hr).2.1⟩, l4, l5⟩, ⟨fun u h => ⟨(hu u h).1, (hu u h).2.2.1, (hu u h).2.2.2⟩, h23⟩, ⟨hr, fun s _ => ⟨0, by decide, ?_⟩⟩, fun u h => ?_, ⟨fun u l h hl q => absurd q (free _ (by omega)), fun w hw => ⟨⟨0, Nat.le_refl _, z18 _ _⟩, fun q => absurd q (free _ (by omega)), fun q => absurd (z18 _ _) q⟩⟩, ⟨fun a ha q => absurd q (free a ha), fun a a' ha _ _ q => absurd q (free a ha)⟩, ⟨fun i hi => absurd hi (Nat.not_lt_zero i), fun i _ hi => absurd hi (Nat.not_lt_zero i)⟩, fun s _ => ⟨Nat.zero_le _, Nat.zero_le _⟩, ⟨fun _ => 4, fun s hs => (l3 s hs).2.2, (show zp_s (fun _ => 4) 0 6 + 0 + 0 ≤ 24 by decide)⟩, ⟨fun i hi => absurd hi (Nat.not_lt_zero i), fun i _ hi => absurd hi (Nat.not_lt_zero i)⟩⟩
  · rw [hF.g (by decide)]; exact zn_g0 (by decide) (by decide) (by decide) _ _
  · obtain ⟨-, ⟨L, L1, L8, eL⟩, -⟩ := hu u h
    refine ⟨L, 0, 0, eL, L1, L8, hz u h 7 (by simp), hz u h 6 (by simp), Nat.le_refl _, Nat.zero_le _, ?_, ?_, fun l hl => ⟨⟨0, by decide, z5 _ _⟩, fun _ => z5 _ _, fun q => absurd q (Nat.not_lt_zero l)⟩⟩
    · rw [zp_s_zero (f := zi_c0 u st) L 0 (fun j _ _ => zp_b0 (p := zz_g 5 (nI (8 * u + j)) 0 st ≠ 0) (fun q => q (z5 _ _)))]; exact hz u h 8 (by simp)
    · rw [zp_s_zero (f := zi_c2 u st) L 0 (fun j _ _ => zp_b0 (p := zz_g 5 (nI (8 * u + j)) 0 st = 2) (fun q => absurd ((z5 (nI (8 * u + j)) 0).symm.trans q) (by decide)))]; exact hz u h 9 (by simp)
theorem zy_start (L : Nat) (sc : Nat → Int32) : zp_ok ((zX8_land (1 + zL_bw (zL_cell L sc 1) 4) (zL_bw (zL_cell L sc 2) 3) zn_0).bind fun x => (zL_rail L sc 3 0 x.2).bind fun st => zL_units L sc 6 0 (fun _ => 0) st) (fun u => zi_I u.1 0 0 u.2) := by
  obtain ⟨a, ha, ea⟩ := zb_bw (zL_cell L sc 1) (n := 4) (by decide) (by decide)
  obtain ⟨b, hb, eb⟩ := zb_bw (zL_cell L sc 2) (n := 3) (by decide) (by decide)
  rw [show zL_bw (zL_cell L sc 1) 4 = nI a from ea, show zL_bw (zL_cell L sc 2) 3 = nI b from eb, show (1 : Int32) + nI a = nI (1 + a) from nI_add 1 a]
  refine (zp_land (a := zn_0) (B := 1 + a) (g := b) rfl rfl ⟨by omega, by omega⟩ (by omega)).bind (fun x hx => ?_)
  refine (zs_rails 3 0 x.2 rfl ⟨hx.1.mono (by decide) (by decide), hx.2, fun s hs => absurd hs (Nat.not_lt_zero s)⟩).bind (fun st hst => ?_)
  obtain ⟨h1, h2, h3⟩ := hst
  refine (zs_units 6 0 _ st rfl ⟨h1.mono (by decide) (by decide), h2, h3, h1.s (by decide), fun i hi => ⟨0, by decide, ?_⟩, fun u hu c _ => ?_, fun u hu => absurd hu (Nat.not_lt_zero u)⟩).mono (fun u hu => zs_I hu)
  · rw [h1.1 23 (by decide), zn_zero (by decide) (by decide) (by decide)]; rfl
  · rw [h1.g (by decide)]; exact zn_g0 (by decide) (by decide) (by decide) _ _
