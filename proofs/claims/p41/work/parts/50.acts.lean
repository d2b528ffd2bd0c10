/-! PURE: the calls that change little -/
theorem zi_I_set {f : Nat → Int32} {e T t r : Nat} {s : zz_T} {c v : Int32} (ht : t < 24 ∧ t ≠ 3) (hr : r < zp_R t) (hc : 0 ≤ c ∧ c < zz_w t) (hm : c ∈ zq0 t) (H : zi_I f e T s) : zi_I f e T (zz_set t (nI r) c v s) :=
  zq_I (zq_rf.set ht.1 hr hc hm) (zp_all.F (zp_F.rfl.set (ts := [t]) (ks := []) (by simp)) (fun q => ht.2 (List.mem_singleton.mp q).symm) H.2.1.2.2) H
theorem zi_I_wild {f : Nat → Int32} {e T t : Nat} {s : zz_T} {r c v : Int32} (ht : t ≠ 3) (hm : zq0 t = zqw) (H : zi_I f e T s) : zi_I f e T (zz_set t r c v s) :=
  zq_I (zq_rf.wild hm) (zp_all.F (zp_F.rfl.set (ts := [t]) (ks := []) (by simp)) (fun q => ht (List.mem_singleton.mp q).symm) H.2.1.2.2) H
theorem zk_wire (v : Int32) (st : zz_T) : zp_ok (zX8_wireTicks v st) (fun _ => True) := by
  unfold zX8_wireTicks
  exact (ze_linesOf st _ _).bind (fun x _ => zp_ite (fun _ => .ret trivial) (fun _ => zp_ite (fun _ => .ret trivial) (fun _ => .ret trivial)))
theorem za_order {f : Nat → Int32} {e T : Nat} {st : zz_T} (H : zi_I f e T st) (v : Int32) : zp_ok (zX8_orderx v st) (fun x => zi_I f e T x.2) := by
  unfold zX8_orderx
  refine zp_ite (fun _ => .ret H) (fun _ => zp_ite (fun _ => zp_ite (fun _ => .ret H) (fun _ => ?_)) (fun _ => .ret H))
  refine zp_loop0 (F := fun n x (p : Int32 × zz_T) => zX8_orderx_50 n v p.1 x p.2) (N := 6) (by decide) (fun _ p => zi_I f e T p.2) (fun n p hp => ?_) (fun n k p hk hp ih => ?_) (s := (0, st)) H
  · rw [zX8_orderx_50, show zX7_count p.2 = nI 6 from hp.1.2.2.1, if_pos (Int32.le_refl _)]
    exact .ret hp
  · rw [zX8_orderx_50, show zX7_count p.2 = nI 6 from hp.1.2.2.1, if_neg (nI_ge hk (by decide))]
    refine zp_ite (fun _ => zp_ite (fun _ => ?_) (fun _ => ih (_, _) hp)) (fun _ => ih (_, _) hp)
    simp only [zz_v]
    have h1 : zi_I f e T (zX7_set (nI k) 4 1 p.2) := zi_I_set (t := 4) (by decide) (show k < zp_R 4 from hk) (by decide) (by decide) hp
    exact (zk_wire _ _).bind (fun x _ => ih (_, _) (zi_I_set (t := 4) (by decide) (show k < zp_R 4 from hk) (by decide) (by decide) h1))
theorem za_stop {f : Nat → Int32} {e T : Nat} {st : zz_T} (H : zi_I f e T st) (v : Int32) : zp_ok (zX8_stopx v st) (fun x => zi_I f e T x.2) := by
  unfold zX8_stopx
  refine zp_ite (fun h1 => ?_) (fun _ => .ret H)
  obtain ⟨u, hu, rfl⟩ := zk_has H.1 h1
  simp only [zz_v]
  refine zp_ite (fun _ => .ret H) (fun _ => zp_ite (fun _ => .ret H) (fun _ => zp_ite (fun _ => ?_) (fun _ => .ret H)))
  exact (zk_wire _ _).bind (fun x _ => .ret (zi_I_set (t := 4) (by decide) (show u < zp_R 4 from hu) (by decide) (by decide) H))
theorem za_aim {f : Nat → Int32} {e T : Nat} {st : zz_T} (H : zi_I f e T st) (v1 v2 v3 : Int32) : zp_ok (zX8_aimx v1 v2 v3 st) (fun x => zi_I f e T x.2) := by
  unfold zX8_aimx
  refine zp_ite (fun _ => .ret H) (fun h1 => zp_ite (fun h2 => zp_ite (fun h3 => zp_ite (fun _ => .ret H) (fun h4 => ?_)) (fun _ => .ret H)) (fun _ => .ret H))
  obtain ⟨u, hu, rfl⟩ := zk_has H.1 h3
  obtain ⟨s, hs, rfl⟩ := zk_sector h4
  simp only [zz_v]
  refine .ret (zi_I_A (b := zz_set 23 v1 (nI u) (nI s) st) (zq_rf.wild rfl) (zp_all.F (zp_F.rfl.set (ts := [23]) (ks := []) (by decide)) (by decide) H.2.1.2.2) ⟨fun x hx => ?_, H.2.2.1.2.set ⟨s, hs, rfl⟩⟩ H)
  rw [zp_gn (by decide), zp_gn (by decide), zp_gn (by decide)]
  exact H.2.2.1.1 x hx
theorem za_bridge {f : Nat → Int32} {e T : Nat} {st : zz_T} (H : zi_I f e T st) (v : Int32) : zp_ok (zX8_bridgex v st) (fun x => zi_I f e T x.2) := by
  unfold zX8_bridgex
  refine zp_ite (fun h1 => ?_) (fun _ => .ret H)
  obtain ⟨l, hl, rfl⟩ : ∃ l, l < 8 ∧ v = nI l := by
    unfold zX1_hasLine at h1
    by_cases h : v < 0
    · rw [if_pos h] at h1; exact absurd h1 (by decide)
    · rw [if_neg h] at h1
      obtain ⟨j, hj, rfl⟩ := nI_of h
      rw [H.1.2.1] at h1
      by_cases h2 : nI 8 ≤ nI j
      · rw [if_pos h2] at h1; exact absurd h1 (by decide)
      · exact ⟨j, by rw [nI_leI (by omega) hj] at h2; omega, rfl⟩
  have go : ∀ w : Int32, zp_ok (zX1_findWays (zz_set 1 (nI l) 4 w st)) (fun x => zi_I f e T x) := fun w => by
    have h1 : zi_I f e T (zz_set 1 (nI l) 4 w st) := zi_I_set (t := 1) (by decide) (show l < 14 by omega) (by decide) (by decide) H
    refine (zp_findWays (S := 6) (L := 8) h1.1.1 h1.1.2.1 (by decide) (by decide)).mono (fun x hx => zq_I (zq_rf.F hx.1 (by intro t ht; simp only [List.mem_cons, List.not_mem_nil, or_false] at ht; rcases ht with rfl | rfl <;> rfl) (by simp)) hx.2 h1)
  have go2 : ∀ b : Bool, zp_ok (zX1_turnBridge_17 (nI l) b st) (fun x => zi_I f e T x.2) := fun b => by
    unfold zX1_turnBridge_17
    simp only [zz_v]
    exact zp_ite (fun _ => (go _).bind (fun x hx => .ret hx)) (fun _ => (go _).bind (fun x hx => .ret hx))
  have : zp_ok (zX1_turnBridge (nI l) st) (fun x => zi_I f e T x.2) := by
    unfold zX1_turnBridge
    exact zp_ite (fun _ => go2 _) (fun _ => go2 _)
  exact this.bind (fun x hx => .ret hx)
theorem zk_station {e T : Nat} {st : zz_T} {v : Int32} (hN : zi_N e T st) (h1 : zX1_hasStation v st = true) : ∃ s, s < 6 ∧ v = nI s := by
  unfold zX1_hasStation at h1
  by_cases h : v < 0
  · rw [if_pos h] at h1; exact absurd h1 (by decide)
  · rw [if_neg h] at h1
    obtain ⟨j, hj, rfl⟩ := nI_of h
    rw [hN.1] at h1
    by_cases h2 : nI 6 ≤ nI j
    · rw [if_pos h2] at h1; exact absurd h1 (by decide)
    · exact ⟨j, by rw [nI_leI (by omega) hj] at h2; omega, rfl⟩
theorem za_foul {f : Nat → Int32} {e T : Nat} {st : zz_T} (H : zi_I f e T st) (v1 v2 : Int32) : zp_ok (zX8_foulx v1 v2 st) (fun x => zi_I f e T x.2) := by
  unfold zX8_foulx
  refine zp_ite (fun h1 => zp_ite (fun _ => .ret H) (fun _ => zp_ite (fun _ => ?_) (fun _ => .ret H))) (fun _ => .ret H)
  obtain ⟨s, hs, rfl⟩ := zk_station H.1 h1
  exact .ret (zi_I_set (t := 0) (by decide) (show s < 10 by omega) (by decide) (by decide) H)
theorem zk_train {e T : Nat} {st : zz_T} {v : Int32} (hN : zi_N e T st) (h1 : zX6_has v st = true) : ∃ s, s < T ∧ v = nI s := by
  unfold zX6_has at h1
  by_cases h : v < 0
  · rw [if_pos h] at h1; exact absurd h1 (by decide)
  · rw [if_neg h] at h1
    obtain ⟨j, hj, rfl⟩ := nI_of h
    obtain ⟨-, -, -, n5, n60, -⟩ := hN
    rw [n5] at h1
    by_cases h2 : nI T ≤ nI j
    · rw [if_pos h2] at h1; exact absurd h1 (by decide)
    · exact ⟨j, by rw [nI_leI (by omega) hj] at h2; omega, rfl⟩
theorem za_box {f : Nat → Int32} {e T : Nat} {st : zz_T} (H : zi_I f e T st) (v1 v2 : Int32) : zp_ok (zX8_boxx v1 v2 st) (fun x => zi_I f e T x.2) := by
  unfold zX8_boxx
  refine zp_ite (fun h1 => zp_ite (fun _ => .ret H) (fun _ => zp_ite (fun _ => ?_) (fun _ => .ret H))) (fun _ => .ret H)
  obtain ⟨i, hi, rfl⟩ := zk_train H.1 h1
  have h60 := H.1.2.2.2.2.1
  have go : ∀ w : Int32, zp_ok (zX8_boxx_74 (nI i) v2 w st) (fun x => zi_I f e T x.2) := fun w => by
    unfold zX8_boxx_74
    exact zp_ite (fun _ => .ret (zi_I_set (t := 16) (by decide) (show i < 60 by omega) (by decide) (by decide) H)) (fun _ => .ret (zi_I_set (t := 16) (by decide) (show i < 60 by omega) (by decide) (by decide) H))
  simp only [zz_v]
  exact zp_ite (fun _ => go _) (fun _ => zp_ite (fun _ => go _) (fun _ => .ret H))
def zqX : Nat → List Int32
  | 21 => [0, 1]
  | t => zq0 t
theorem zi_I_X {f : Nat → Int32} {e T : Nat} {a b : zz_T} (h : zq zqX [] a b) (h3 : zp_all 3 (zp_li 8) b) (hX : zi_X b) (H : zi_I f e T a) : zi_I f e T b := by
  obtain ⟨hN, hL, hU, -, hS, hK, hP, hT, hG, hE, hD⟩ := H
  have h60 := hN.2.2.2.2.1
  exact ⟨zq_N h (by decide) hN, zq_L h (by decide) (by decide) h3 hL, zq_U h (by decide) rfl hU, hX, zq_S h (by decide) (by decide) hS, zq_K h (by decide) (by decide) (by decide) hK, zq_P h (by decide) rfl rfl rfl rfl (by decide) hP, zq_T h60 h (by decide) (by decide) hT, zq_G h60 h (by decide) hG, zq_E h60 h (by decide) (by decide) hE, zq_D h60 h (by decide) (by decide) (by decide) hD⟩
theorem zk_foePlan {st : zz_T} {v : Int32} (h : ¬ zX8_isNoFoePlan v st = true) : ∃ u, u < 3 ∧ v = nI u := by
  unfold zX8_isNoFoePlan at h
  by_cases h1 : v < 0
  · rw [if_pos h1] at h; exact absurd rfl h
  · rw [if_neg h1] at h
    obtain ⟨j, hj, rfl⟩ := nI_of h1
    by_cases h2 : nI j < 3
    · exact ⟨j, (nI_ltI (b := 3) hj (by decide)).mp h2, rfl⟩
    · rw [if_neg h2] at h; exact absurd rfl h
theorem za_foe {f : Nat → Int32} {e T : Nat} {st : zz_T} (H : zi_I f e T st) (v1 v2 v3 v4 : Int32) : zp_ok (zX8_foex v1 v2 v3 v4 st) (fun x => zi_I f e T x.2) := by
  unfold zX8_foex
  refine zp_ite (fun _ => .ret H) (fun h1 => zp_ite (fun _ => .ret H) (fun _ => zp_ite (fun _ => .ret H) (fun _ => zp_ite (fun _ => zp_ite (fun _ => .ret H) (fun _ => zp_ite (fun _ => zp_ite (fun h2 => ?_) (fun _ => .ret H)) (fun _ => .ret H))) (fun _ => .ret H))))
  obtain ⟨p, hp, rfl⟩ := zk_foePlan h1
  obtain ⟨n, hn, en⟩ := H.2.2.2.1.2 p hp
  have hn6 : n < 6 := (nI_ltI (b := 6) (by omega) (by decide)).mp (by rw [← en]; exact h2)
  unfold zX0_add
  simp only [zz_v]
  obtain ⟨w, ew⟩ : ∃ w, w = nI p * 6 + zz_g 21 (nI p) 0 st := ⟨_, rfl⟩
  rw [← ew]
  obtain ⟨b, eb⟩ : ∃ b, b = zz_set 20 w 2 v4 (zz_set 20 w 1 v3 (zz_set 20 w 0 v2 st)) := ⟨_, rfl⟩
  rw [← eb]
  have hF : zp_F [20] [] st b := by rw [eb]; exact ((zp_F.rfl.set (by decide)).set (by decide)).set (by decide)
  have hq : zq zqX [] st (zz_add 21 (nI p) 0 1 b) := (zq_rf.F hF (by intro t ht; rw [List.mem_singleton] at ht; rw [ht]; rfl) (by simp)).add (by decide) (show p < zp_R 21 from hp) (by decide) (by decide)
  have hF2 : zp_F [20, 21] [] st (zz_add 21 (nI p) 0 1 b) := (hF.mono (by decide) (by decide)).add (by decide)
  refine .ret (zi_I_X hq (zp_all.F hF2 (by decide) H.2.1.2.2) ⟨fun s hs => ?_, fun s hs => ?_⟩ H)
  · rw [hF2.g (by decide)]; exact H.2.2.2.1.1 s hs
  · rw [za21 hp hs (by decide) (by decide), hF.g (by decide), hF.g (by decide)]
    by_cases q : s = p
    · rw [if_pos ⟨q, rfl⟩, en, nI_1]
      exact ⟨n + 1, by omega, rfl⟩
    · rw [if_neg (fun r => q r.1)]
      exact H.2.2.2.1.2 s hs
