/-! PURE: TRAINS in their order; how one MOVES -/
theorem zg_17 {j p : Nat} (hj : j < 60) (hp : p < 60) {v : Int32} {s : zz_T} : zz_g 17 (nI j) 0 (zz_set 17 (nI p) 0 v s) = if j = p then v else zz_g 17 (nI j) 0 s := by
  rw [zg17 hp hj (by decide) (by decide)]
  by_cases q : j = p
  · rw [if_pos ⟨q, rfl⟩, if_pos q]
  · rw [if_neg (fun r => q r.1), if_neg q]
theorem zm_place {f : Nat → Int32} {e T k c : Nat} {v w : Int32} {t0 : Int32} (hk : k < T) (hc : c < 60) : ∀ (p m : Nat) (s : zz_T), p ≤ c → p < m → zi_I f e T s → s.2 0 = t0 → (∀ j, j ≤ c → j ≠ p → zp_bl T (zz_g 17 (nI j) 0 s)) → zp_ok (zX6_placeIn_11 m (nI k) v w (nI p) s) (fun x => zi_I f e T x ∧ x.2 0 = t0 ∧ ∀ j, j ≤ c → zp_bl T (zz_g 17 (nI j) 0 x)) := by
  intro p
  induction p with
  | zero =>
    intro m s hp hm H h0 hj
    obtain ⟨m, rfl⟩ : ∃ j, m = j + 1 := ⟨m - 1, by omega⟩
    rw [zX6_placeIn_11, if_pos (show nI 0 ≤ 0 by decide)]
    simp only [zz_v]
    refine .ret ⟨zi_I_set (t := 17) (by decide) (show 0 < zp_R 17 by decide) (by decide) (by decide) H, by rw [zp_s2]; exact h0, fun j hjc => ?_⟩
    rw [zg_17 (by omega) (by omega)]
    by_cases q : j = 0
    · rw [if_pos q]; exact ⟨k, hk, rfl⟩
    · rw [if_neg q]; exact hj j hjc q
  | succ p ih =>
    intro m s hp hm H h0 hj
    obtain ⟨m, rfl⟩ : ∃ j, m = j + 1 := ⟨m - 1, by omega⟩
    rw [zX6_placeIn_11, if_neg (nI_nle (by omega) (by omega)), nI_pred, zp_nm]
    simp only [zz_v]
    have r17 : p + 1 < zp_R 17 := show p + 1 < 60 by omega
    refine zp_ite (fun _ => .ret ⟨zi_I_set (t := 17) (by decide) r17 (by decide) (by decide) H, by rw [zp_s2]; exact h0, fun j hjc => ?_⟩) (fun _ => ih m _ (by omega) (by omega) (zi_I_set (t := 17) (by decide) r17 (by decide) (by decide) H) (by rw [zp_s2]; exact h0) (fun j hjc hne => ?_))
    · rw [zg_17 (by omega) (by omega)]
      by_cases q : j = p + 1
      · rw [if_pos q]; exact ⟨k, hk, rfl⟩
      · rw [if_neg q]; exact hj j hjc q
    · rw [zg_17 (by omega) (by omega)]
      by_cases q : j = p + 1
      · rw [if_pos q]; exact hj p (by omega) (by omega)
      · rw [if_neg q]; exact hj j hjc q
theorem zm_lineUp {f : Nat → Int32} {e T : Nat} {st : zz_T} (H : zi_I f e T st) (v : Int32) : zp_ok (zX6_lineUp v st) (fun x => ∃ c, c ≤ T ∧ x.1 = nI c ∧ zi_I f e T x.2 ∧ x.2.2 0 = st.2 0 ∧ ∀ j, j < c → zp_bl T (zz_g 17 (nI j) 0 x.2)) := by
  have h60 := H.1.2.2.2.2.1
  unfold zX6_lineUp
  refine zp_loop0 (F := fun n x (p : Int32 × zz_T) => zX6_lineUp_4 n v p.1 x p.2) (N := T) (by omega) (fun k x => ∃ c, c ≤ k ∧ x.1 = nI c ∧ zi_I f e T x.2 ∧ x.2.2 0 = st.2 0 ∧ ∀ j, j < c → zp_bl T (zz_g 17 (nI j) 0 x.2)) (fun n p hp => ?_) (fun n k p hk hp ih => ?_) (s := (0, st)) ⟨0, by omega, rfl, H, rfl, fun j hj => absurd hj (Nat.not_lt_zero j)⟩
  · obtain ⟨c, h1, h2, h3, h4, h5⟩ := hp
    rw [zX6_lineUp_4, h3.1.2.2.2.1, if_pos (Int32.le_refl _)]
    exact .ret ⟨c, h1, h2, h3, h4, h5⟩
  · obtain ⟨c, h1, h2, h3, h4, h5⟩ := hp
    rw [zX6_lineUp_4, h3.1.2.2.2.1, if_neg (nI_ge hk (by omega))]
    refine zp_ite (fun _ => ih (_, _) ⟨c, by omega, h2, h3, h4, h5⟩) (fun _ => ?_)
    unfold zX6_placeIn
    simp only [zz_v]
    rw [h2]
    refine (zm_place (c := c) hk (by omega) c zz_N p.2 (Nat.le_refl _) (by show _ < 1000; omega) h3 h4 (fun j hj hne => h5 j (by omega))).bind (fun y hy => ih (_, _) ⟨c + 1, by omega, nI_1 c, hy.1, hy.2.1, fun j hj => hy.2.2 j (by omega)⟩)
/-- only one TRAIN's row changes, and what came through a LINE -/
def zm_R (i : Nat) (a b : zz_T) : Prop := zp_F [1, 16] [] a b ∧ zp_C 1 [6] a b ∧ ∀ j, j < 60 → j ≠ i → ∀ c : Int32, 0 ≤ c ∧ c < 16 → zz_g 16 (nI j) c b = zz_g 16 (nI j) c a
theorem zm_rf {i : Nat} {a : zz_T} : zm_R i a a := ⟨.rfl, .rfl, fun _ _ _ _ _ => rfl⟩
theorem zm_R.trans {i : Nat} {a b c : zz_T} (h1 : zm_R i a b) (h2 : zm_R i b c) : zm_R i a c := ⟨h1.1.trans h2.1, h1.2.1.trans h2.2.1, fun j hj hne x hx => (h2.2.2 j hj hne x hx).trans (h1.2.2 j hj hne x hx)⟩
theorem zm_R.set {i : Nat} {a b : zz_T} {c v : Int32} (h : zm_R i a b) (hi : i < 60) (hc : 0 ≤ c ∧ c < 16) : zm_R i a (zz_set 16 (nI i) c v b) := by
  refine ⟨h.1.set (by decide), h.2.1.ne (by decide), fun j hj hne x hx => ?_⟩
  rw [zg16 hi hj hc hx, if_neg (fun q => hne q.1)]
  exact h.2.2 j hj hne x hx
theorem zm_R.thr {i l : Nat} {a b : zz_T} (h : zm_R i a b) (hl : l < 8) : zm_R i a (zz_add 1 (nI l) 6 1 b) := by
  refine ⟨h.1.add (by decide), h.2.1.add (by decide) (show l < 14 by omega) (by decide) (by decide), fun j hj hne x hx => ?_⟩
  rw [zp_gan (by decide)]
  exact h.2.2 j hj hne x hx
def zqM : Nat → List Int32
  | 1 => [6]
  | 16 => zqw
  | _ => []
theorem zm_R.q {i : Nat} {a b : zz_T} (h : zm_R i a b) : zq zqM [] a b := by
  refine ⟨fun t ht x hx y hy hny => ?_, fun j hj => h.1.2 j hj⟩
  by_cases q16 : t = 16
  · subst q16; exact absurd (zqw_all ht hy) hny
  · by_cases q1 : t = 1
    · subst q1; exact h.2.1 x hx y hy hny
    · exact h.1.g (by simp; omega) _ _
theorem zm_R.same {i : Nat} {a b : zz_T} (h : zm_R i a b) {j : Nat} (hj : j < 60) (hne : j ≠ i) : zt_same j a b := ⟨h.2.2 j hj hne 2 (by decide), h.2.2 j hj hne 3 (by decide), h.2.2 j hj hne 4 (by decide), h.2.2 j hj hne 10 (by decide), h.2.2 j hj hne 11 (by decide), h.2.2 j hj hne 12 (by decide)⟩
theorem zm_row {f : Nat → Int32} {e T i : Nat} {a b : zz_T} (hi : i < T) (H : zi_I f e T a) (hR : zm_R i a b) (k0 : zz_g 16 (nI i) 0 b = zz_g 16 (nI i) 0 a) (k14 : zz_g 16 (nI i) 14 b = zz_g 16 (nI i) 14 a) (k15 : zz_g 16 (nI i) 15 b = zz_g 16 (nI i) 15 a) (hn : zi_how i a ≠ 3) (hT1 : zi_T1 i b) (hcl : ∀ j, j < T → j ≠ i → ¬ zi_clash i j b)
    (hG : ∀ s, s < 6 → zp_s (zi_fg s a) 0 T + zi_fg s b i ≤ 5 + zi_fg s a i ∧ zp_s (zi_fu s a) 0 T + zi_fu s b i ≤ 2 + zi_fu s a i) : zi_I f e T b := by
  obtain ⟨hN, hL, hU, hX, hS, hK, hP, hT, hGa, hE, hD⟩ := H
  have h60 := hN.2.2.2.2.1
  have h := hR.q
  have all : ∀ c : Int32, 0 ≤ c ∧ c < 16 → zz_g 16 (nI i) c b = zz_g 16 (nI i) c a → ∀ j, j < T → zz_g 16 (nI j) c b = zz_g 16 (nI j) c a := fun c hc ei j hj => by
    by_cases q : j = i
    · rw [q]; exact ei
    · exact hR.2.2 j (by omega) q c hc
  refine ⟨zq_N h (by decide) hN, zq_L h (by decide) (by decide) (zp_all.F hR.1 (by decide) hL.2.2) hL, zq_U h (by decide) rfl hU, zq_X h (by decide) (by decide) hX, zq_S h (by decide) (by decide) hS, zq_K h (by decide) (by decide) (by decide) hK, zq_P h (by decide) rfl rfl rfl rfl (by decide) hP, zi_T_ext i (fun j hj _ => hj) (fun j hj hne => hR.same (by omega) hne) (fun l hl => zq_1 h (by decide) hl) (fun _ => ⟨hT1, fun j hj hne => hcl j hj hne⟩) hT, zi_G_ext hi (fun j hj hne => hR.same (by omega) hne) hG, ?_, zi_D_mono (fun j hj hh => ?_) (fun j hj hh hd => ?_) hD⟩
  · obtain ⟨m, m1, m2⟩ := hE
    have m2 : zp_s m 0 6 + zp_s (ze_h a) 0 T + zp_s (ze_b a) 0 T ≤ 24 := m2
    refine ⟨m, fun s hs => by rw [hR.1.g (by decide)]; exact m1 s hs, ?_⟩
    have c1 := zp_s_upd (f := ze_h a) (g := ze_h b) (j := i) T 0 (Nat.zero_le _) (by omega) (fun j hne _ hj => by unfold ze_h zi_how; rw [hR.2.2 j (by omega) hne 2 (by decide)])
    have c2 : zp_s (ze_b b) 0 T = zp_s (ze_b a) 0 T := zp_s_congr T 0 (fun j _ hj => by unfold ze_b; rw [all 15 (by decide) k15 j (by omega)])
    have c3 : ze_h a i = 1 := zp_b1 hn
    have c4 : ze_h b i ≤ 1 := zp_ble
    show zp_s m 0 6 + zp_s (ze_h b) 0 T + zp_s (ze_b b) 0 T ≤ 24
    omega
  · by_cases q : j = i
    · subst q; exact ⟨hn, k0, k14⟩
    · refine ⟨?_, hR.2.2 j (by omega) q 0 (by decide), hR.2.2 j (by omega) q 14 (by decide)⟩
      unfold zi_how at hh ⊢
      rw [← hR.2.2 j (by omega) q 2 (by decide)]
      exact hh
  · exact zi_D1_mono (all 0 (by decide) k0 j hj) (all 14 (by decide) k14 j hj) (fun u l g hu hl _ _ q3 q4 q5 q6 => ⟨⟨g, by rw [hR.1.g (by decide)]; exact q3, q4, q5⟩, by rw [hR.1.g (by decide)]; exact q6⟩) hd
/-- a BLOCK entered -/
theorem zm_enter {i : Nat} (hi : i < 60) (l b : Int32) (s : zz_T) : zm_R i s (zX6_enter (nI i) l b s) ∧ zz_g 16 (nI i) 4 (zX6_enter (nI i) l b s) = b ∧ ∀ c : Int32, 0 ≤ c ∧ c < 16 → c ≠ 4 → c ≠ 5 → c ≠ 8 → zz_g 16 (nI i) c (zX6_enter (nI i) l b s) = zz_g 16 (nI i) c s := by
  have go : ∀ v w : Int32, zm_R i s (zz_add 16 (nI i) 8 w (zz_set 16 (nI i) 5 v (zz_set 16 (nI i) 4 b s))) ∧ zz_g 16 (nI i) 4 (zz_add 16 (nI i) 8 w (zz_set 16 (nI i) 5 v (zz_set 16 (nI i) 4 b s))) = b ∧ ∀ c : Int32, 0 ≤ c ∧ c < 16 → c ≠ 4 → c ≠ 5 → c ≠ 8 → zz_g 16 (nI i) c (zz_add 16 (nI i) 8 w (zz_set 16 (nI i) 5 v (zz_set 16 (nI i) 4 b s))) = zz_g 16 (nI i) c s := fun v w => by
    refine ⟨((zm_rf.set hi (by decide)).set hi (by decide)).set hi (by decide), ?_, fun c hc h4 h5 h8 => ?_⟩
    · rw [za16 hi hi (by decide) (by decide), if_neg (fun q => absurd q.2 (by decide)), zg16 hi hi (by decide) (by decide), if_neg (fun q => absurd q.2 (by decide)), zg16 hi hi (by decide) (by decide), if_pos ⟨rfl, rfl⟩]
    · rw [za16 hi hi (by decide) hc, if_neg (fun q => h8 q.2), zg16 hi hi (by decide) hc, if_neg (fun q => h5 q.2), zg16 hi hi (by decide) hc, if_neg (fun q => h4 q.2)]
  unfold zX6_enter zX6_enter_29
  simp only [zz_v, Bool.false_eq_true, if_true, if_false]
  refine zp_if (fun x => zm_R i s x ∧ zz_g 16 (nI i) 4 x = b ∧ ∀ c : Int32, 0 ≤ c ∧ c < 16 → c ≠ 4 → c ≠ 5 → c ≠ 8 → zz_g 16 (nI i) c x = zz_g 16 (nI i) c s) (fun _ => go _ _) (fun _ => go _ _)
/-- a LINE left -/
def zm_end (i : Nat) (s : zz_T) : Int32 := if zz_g 16 (nI i) 11 s = 1 then zX1_endOf (zz_g 16 (nI i) 3 s) true s else zX1_endOf (zz_g 16 (nI i) 3 s) false s
theorem zm_arrive {i l : Nat} (hi : i < 60) (hl : l < 8) (s : zz_T) (h3 : zz_g 16 (nI i) 3 s = nI l) : zm_R i s (zX6_arrive (nI i) (nI l) s) ∧ zi_how i (zX6_arrive (nI i) (nI l) s) = 0 ∧ zz_g 16 (nI i) 3 (zX6_arrive (nI i) (nI l) s) = zm_end i s ∧ zz_g 16 (nI i) 4 (zX6_arrive (nI i) (nI l) s) = -1 ∧ ∀ c : Int32, 0 ≤ c ∧ c < 16 → c ≠ 2 → c ≠ 3 → c ≠ 4 → c ≠ 6 → c ≠ 8 → zz_g 16 (nI i) c (zX6_arrive (nI i) (nI l) s) = zz_g 16 (nI i) c s := by
  have go : ∀ k : Bool, zm_R i s (zX6_arrive_21 (nI i) (nI l) (nI l) k s) ∧ zi_how i (zX6_arrive_21 (nI i) (nI l) (nI l) k s) = 0 ∧ zz_g 16 (nI i) 3 (zX6_arrive_21 (nI i) (nI l) (nI l) k s) = zX1_endOf (nI l) k s ∧ zz_g 16 (nI i) 4 (zX6_arrive_21 (nI i) (nI l) (nI l) k s) = -1 ∧ ∀ c : Int32, 0 ≤ c ∧ c < 16 → c ≠ 2 → c ≠ 3 → c ≠ 4 → c ≠ 6 → c ≠ 8 → zz_g 16 (nI i) c (zX6_arrive_21 (nI i) (nI l) (nI l) k s) = zz_g 16 (nI i) c s := by
    intro k
    obtain ⟨b, eb⟩ : ∃ b, b = zz_set 16 (nI i) 4 (-1) (zz_set 16 (nI i) 3 (zX1_endOf (nI l) k s) (zz_set 16 (nI i) 2 0 (zz_add 1 (nI l) 6 1 s))) := ⟨_, rfl⟩
    have hb : zm_R i s b := by rw [eb]; exact (((zm_rf.thr hl).set hi (by decide)).set hi (by decide)).set hi (by decide)
    have b2 : zi_how i b = 0 := by
      unfold zi_how
      rw [eb, zg16 hi hi (by decide) (by decide), if_neg (fun q => absurd q.2 (by decide)), zg16 hi hi (by decide) (by decide), if_neg (fun q => absurd q.2 (by decide)), zg16 hi hi (by decide) (by decide), if_pos ⟨rfl, rfl⟩]
    have b3 : zz_g 16 (nI i) 3 b = zX1_endOf (nI l) k s := by rw [eb, zg16 hi hi (by decide) (by decide), if_neg (fun q => absurd q.2 (by decide)), zg16 hi hi (by decide) (by decide), if_pos ⟨rfl, rfl⟩]
    have b4 : zz_g 16 (nI i) 4 b = -1 := by rw [eb, zg16 hi hi (by decide) (by decide), if_pos ⟨rfl, rfl⟩]
    have bc : ∀ c : Int32, 0 ≤ c ∧ c < 16 → c ≠ 2 → c ≠ 3 → c ≠ 4 → zz_g 16 (nI i) c b = zz_g 16 (nI i) c s := fun c hc h2 h3 h4 => by
      rw [eb, zg16 hi hi (by decide) hc, if_neg (fun q => h4 q.2), zg16 hi hi (by decide) hc, if_neg (fun q => h3 q.2), zg16 hi hi (by decide) hc, if_neg (fun q => h2 q.2), zp_gan (by decide)]
    have e21 : zX6_arrive_21 (nI i) (nI l) (nI l) k s = if zX1_getStation (zX1_endOf (nI l) k s) 3 b = 1 then (if zz_g 16 (nI i) 8 b < 4 then b else zz_set 16 (nI i) 8 0 (zz_set 16 (nI i) 6 2 b)) else b := by rw [eb]; rfl
    rw [e21]
    refine zp_if (fun x => zm_R i s x ∧ zi_how i x = 0 ∧ zz_g 16 (nI i) 3 x = zX1_endOf (nI l) k s ∧ zz_g 16 (nI i) 4 x = -1 ∧ ∀ c : Int32, 0 ≤ c ∧ c < 16 → c ≠ 2 → c ≠ 3 → c ≠ 4 → c ≠ 6 → c ≠ 8 → zz_g 16 (nI i) c x = zz_g 16 (nI i) c s) (fun _ => zp_if (fun x => zm_R i s x ∧ zi_how i x = 0 ∧ zz_g 16 (nI i) 3 x = zX1_endOf (nI l) k s ∧ zz_g 16 (nI i) 4 x = -1 ∧ ∀ c : Int32, 0 ≤ c ∧ c < 16 → c ≠ 2 → c ≠ 3 → c ≠ 4 → c ≠ 6 → c ≠ 8 → zz_g 16 (nI i) c x = zz_g 16 (nI i) c s) (fun _ => ?_) (fun _ => ?_)) (fun _ => ?_)
    · exact ⟨hb, b2, b3, b4, fun c hc h2 h3 h4 _ _ => bc c hc h2 h3 h4⟩
    · refine ⟨(hb.set hi (by decide)).set hi (by decide), ?_, ?_, ?_, fun c hc h2 h3 h4 h6 h8 => ?_⟩
      · unfold zi_how
        rw [zg16 hi hi (by decide) (by decide), if_neg (fun q => absurd q.2 (by decide)), zg16 hi hi (by decide) (by decide), if_neg (fun q => absurd q.2 (by decide))]
        exact b2
      · rw [zg16 hi hi (by decide) (by decide), if_neg (fun q => absurd q.2 (by decide)), zg16 hi hi (by decide) (by decide), if_neg (fun q => absurd q.2 (by decide))]
        exact b3
      · rw [zg16 hi hi (by decide) (by decide), if_neg (fun q => absurd q.2 (by decide)), zg16 hi hi (by decide) (by decide), if_neg (fun q => absurd q.2 (by decide))]
        exact b4
      · rw [zg16 hi hi (by decide) hc, if_neg (fun q => h8 q.2), zg16 hi hi (by decide) hc, if_neg (fun q => h6 q.2)]
        exact bc c hc h2 h3 h4
    · exact ⟨hb, b2, b3, b4, fun c hc h2 h3 h4 _ _ => bc c hc h2 h3 h4⟩
  unfold zX6_arrive zm_end
  rw [h3]
  by_cases q : zz_g 16 (nI i) 11 s = 1
  · rw [if_pos q, if_pos q]; exact go true
  · rw [if_neg q, if_neg q]; exact go false
/-- what a no to waiting says, on a BLOCK -/
def zm_W (T i : Nat) (s : zz_T) : Prop := ((zX6_nextBlock (nI i) s < 0 ∨ zz_g 1 (zz_g 16 (nI i) 3 s) 2 s ≤ zX6_nextBlock (nI i) s) → ∀ x, x < 6 → zm_end i s = nI x → zp_s (zr_at x s) 0 T ≤ 4) ∧
  (¬ zX6_nextBlock (nI i) s < 0 → ¬ zz_g 1 (zz_g 16 (nI i) 3 s) 2 s ≤ zX6_nextBlock (nI i) s → ∀ j, j < T → zi_how j s = 1 → zz_g 16 (nI j) 3 s = zz_g 16 (nI i) 3 s → zz_g 16 (nI j) 4 s = zX6_nextBlock (nI i) s → zz_g 16 (nI j) 11 s ≠ zz_g 16 (nI i) 11 s)
theorem zm_endL {i l : Nat} {s : zz_T} (h3 : zz_g 16 (nI i) 3 s = nI l) (hl : zi_ln l s) : zp_bl 6 (zm_end i s) := by
  obtain ⟨p1, p2, -⟩ := hl
  unfold zm_end zX1_endOf
  rw [h3]
  by_cases q : zz_g 16 (nI i) 11 s = 1
  · rw [if_pos q, if_pos rfl]; exact p2
  · rw [if_neg q, if_neg (by decide)]; exact p1
theorem zm_onBlock {f : Nat → Int32} {e T i : Nat} {s : zz_T} (hi : i < T) (H : zi_I f e T s) (h1 : zi_how i s = 1) : zp_ok (zX6_waitOnBlock (nI i) s) (fun w => w = 0 → zm_W T i s) := by
  have h60 := H.1.2.2.2.2.1
  have h5 := H.1.2.2.2.1
  obtain ⟨⟨l, hl, e3⟩, -⟩ := (H.2.2.2.2.2.2.2.1.1 i hi).2.1 h1
  obtain ⟨x, hx, ex⟩ := zm_endL e3 (H.2.1.2.1 l hl)
  have stn : (zX6_nextBlock (nI i) s < 0 ∨ zz_g 1 (zz_g 16 (nI i) 3 s) 2 s ≤ zX6_nextBlock (nI i) s) → ∀ k : Bool, zX1_endOf (zz_g 16 (nI i) 3 s) k s = nI x → zp_ok (zX6_waitOnBlock_81 (zz_g 16 (nI i) 3 s) k s) (fun w => w = 0 → zm_W T i s) := by
    intro hor k ek
    unfold zX6_waitOnBlock_81
    simp only [zz_v]
    rw [ek]
    refine zp_ite (fun _ => ?_) (fun _ => .ret (fun q => absurd q (by decide)))
    rw [zr_countAt h5 h60 x, show zX1_getStation (nI x) 0 s = 2 from (H.2.1.1 x hx).1, show zX1_getStation (nI x) 1 s = 3 from (H.2.1.1 x hx).2]
    show zp_ok (if (2 : Int32) + 3 ≤ nI _ then some 3 else some 0) _
    refine zp_ite (fun _ => .ret (fun q => absurd q (by decide))) (fun hc => .ret (fun _ => ⟨fun _ y hy ey => ?_, fun q1 q2 => ?_⟩))
    · have exy : x = y := (nI_eq (by omega) (by omega)).mp (ex.symm.trans ey)
      rw [← exy]
      have hb := zp_s_bd (f := zr_at x s) (c := 1) T 0 (fun _ _ _ => zp_ble)
      have : ¬ nI 5 ≤ nI (zp_s (zr_at x s) 0 T) := hc
      rw [nI_leI (by decide) (by omega)] at this
      omega
    · rcases hor with q | q
      · exact absurd q q1
      · exact absurd q q2
  have both : (zX6_nextBlock (nI i) s < 0 ∨ zz_g 1 (zz_g 16 (nI i) 3 s) 2 s ≤ zX6_nextBlock (nI i) s) → zp_ok (if zz_g 16 (nI i) 11 s = 1 then zX6_waitOnBlock_81 (zz_g 16 (nI i) 3 s) true s else zX6_waitOnBlock_81 (zz_g 16 (nI i) 3 s) false s) (fun w => w = 0 → zm_W T i s) := by
    intro hor
    unfold zm_end at ex
    refine zp_ite (fun q => stn hor true ?_) (fun q => stn hor false ?_)
    · rw [if_pos q] at ex; exact ex
    · rw [if_neg q] at ex; exact ex
  unfold zX6_waitOnBlock
  simp only [zz_v]
  refine zp_ite (fun q => both (Or.inl q)) (fun q1 => zp_ite (fun q => both (Or.inr q)) (fun q2 => ?_))
  refine (zr_isTaken h5 h60 _ _ _ _).bind (fun r hr => zp_ite (fun _ => .ret (fun q => absurd q (by decide))) (fun hf => .ret (fun _ => ⟨fun q => ?_, fun _ _ j hj hh e1 e2 => ?_⟩)))
  · rcases q with q | q
    · exact absurd q q1
    · exact absurd q q2
  · exact (hr (by cases r <;> simp_all) j hj hh e1 e2).2
theorem zm_W_of {T i : Nat} {a b : zz_T} (hi : i < T) (hT : T ≤ 60) (h1 : ∀ r c, zz_g 1 r c b = zz_g 1 r c a) (h : ∀ j, j < 60 → ∀ c : Int32, c = 2 ∨ c = 3 ∨ c = 4 ∨ c = 11 → zz_g 16 (nI j) c b = zz_g 16 (nI j) c a) (H : zm_W T i a) : zm_W T i b := by
  have e2 := fun j hj => h j hj 2 (by simp)
  have e3 := fun j hj => h j hj 3 (by simp)
  have e4 := fun j hj => h j hj 4 (by simp)
  have e11 := fun j hj => h j hj 11 (by simp)
  have i60 : i < 60 := by omega
  have nb : zX6_nextBlock (nI i) b = zX6_nextBlock (nI i) a := by unfold zX6_nextBlock; rw [e11 i i60, e4 i i60]
  have en : zm_end i b = zm_end i a := by unfold zm_end zX1_endOf; rw [e11 i i60, e3 i i60, h1, h1]
  have at' : ∀ x, zp_s (zr_at x b) 0 T = zp_s (zr_at x a) 0 T := fun x => zp_s_congr T 0 (fun j _ hj => by unfold zr_at zi_how; rw [e2 j (by omega), e3 j (by omega)])
  obtain ⟨H1, H2⟩ := H
  refine ⟨?_, ?_⟩
  · rw [nb, e3 i i60, h1]
    intro q x hx ex
    rw [at' x]
    exact H1 q x hx (by rw [← en]; exact ex)
  · rw [nb, e3 i i60, h1, e11 i i60]
    intro q1 q2 j hj hh p1 p2
    unfold zi_how at hh
    rw [e2 j (by omega)] at hh
    rw [e3 j (by omega)] at p1
    rw [e4 j (by omega)] at p2
    rw [e11 j (by omega)]
    exact H2 q1 q2 j hj hh p1 p2
theorem zm_fg0 {i s : Nat} {b : zz_T} (h : zi_how i b = 1 ∨ zi_how i b = 3) : zi_fg s b i = 0 ∧ zi_fu s b i = 0 := by
  refine ⟨zp_b0 (fun q => ?_), zp_b0 (fun q => ?_)⟩
  · rcases h with h | h <;> rw [h] at q <;> rcases q.1 with w | w <;> exact absurd w (by decide)
  · rcases h with h | h <;> rw [h] at q <;> exact absurd q.1 (by decide)
theorem zm_run22 {f : Nat → Int32} {e T i : Nat} {s : zz_T} (hi : i < T) (H : zi_I f e T s) (h1 : zi_how i s = 1) (hW : zm_W T i s) : zi_I f e T (zX6_run_22 (nI i) true s) ∧ zp_F [1, 16] [] s (zX6_run_22 (nI i) true s) := by
  have h60 := H.1.2.2.2.2.1
  have i60 : i < 60 := by omega
  have hT1 := H.2.2.2.2.2.2.2.1.1 i hi
  obtain ⟨⟨l, hl, e3⟩, hb0⟩ := hT1.2.1 h1
  have hn3 : zi_how i s ≠ 3 := by rw [h1]; decide
  have arr : (zX6_nextBlock (nI i) s < 0 ∨ zz_g 1 (zz_g 16 (nI i) 3 s) 2 s ≤ zX6_nextBlock (nI i) s) → zi_I f e T (zX6_arrive (nI i) (zz_g 16 (nI i) 3 s) s) ∧ zp_F [1, 16] [] s (zX6_arrive (nI i) (zz_g 16 (nI i) 3 s) s) := by
    intro hor
    rw [e3]
    obtain ⟨R, a2, a3, a4, ac⟩ := zm_arrive i60 hl s e3
    obtain ⟨x, hx, ex⟩ := zm_endL e3 (H.2.1.2.1 l hl)
    rw [ex] at a3
    refine ⟨zm_row hi H R (ac 0 (by decide) (by decide) (by decide) (by decide) (by decide) (by decide)) (ac 14 (by decide) (by decide) (by decide) (by decide) (by decide) (by decide)) (ac 15 (by decide) (by decide) (by decide) (by decide) (by decide) (by decide)) hn3 ⟨⟨0, by decide, a2⟩, fun q => absurd (a2.symm.trans q) (by decide), fun _ => a4, fun _ => ⟨x, hx, a3⟩, ?_, ?_⟩ (fun j hj hne hc => absurd (a2.symm.trans hc.1) (by decide)) (fun y hy => ?_), R.1⟩
    · rw [ac 12 (by decide) (by decide) (by decide) (by decide) (by decide) (by decide)]; exact hT1.2.2.2.2.1
    · rw [ac 10 (by decide) (by decide) (by decide) (by decide) (by decide) (by decide)]; exact hT1.2.2.2.2.2
    · have G := H.2.2.2.2.2.2.2.2.1 y hy
      have u0 : ∀ t : zz_T, zi_how i t = 0 → zi_fu y t i = 0 := fun t ht => zp_b0 (fun q => by rw [ht] at q; exact absurd q.1 (by decide))
      rw [u0 _ a2]
      by_cases q : y = x
      · have le := zp_s_le (f := zi_fg y s) (g := zr_at y s) T 0 (fun j _ _ => by
          unfold zi_fg zr_at
          by_cases w : (zi_how j s = 0 ∨ zi_how j s = 2) ∧ zz_g 16 (nI j) 3 s = nI y
          · rw [zp_b1 w]; exact zp_ble
          · rw [zp_b0 w, zp_b0 (fun z => w ⟨z.1, z.2.1⟩)]; exact Nat.le_refl _)
        have w4 := hW.1 hor x hx ex
        rw [← q] at w4
        have : zi_fg y (zX6_arrive (nI i) (nI l) s) i ≤ 1 := zp_ble
        omega
      · have : zi_fg y (zX6_arrive (nI i) (nI l) s) i = 0 := zp_b0 (fun z => by
          have := z.2.1
          rw [a3] at this
          exact q ((nI_eq (by omega) (by omega)).mp this).symm)
        omega
  unfold zX6_run_22
  simp only [zz_v]
  refine zp_if (fun x => zi_I f e T x ∧ zp_F [1, 16] [] s x) (fun _ => ⟨H, .rfl⟩) (fun _ => ?_)
  rw [if_pos trivial]
  refine zp_if (fun x => zi_I f e T x ∧ zp_F [1, 16] [] s x) (fun q => arr (Or.inl q)) (fun q1 => zp_if (fun x => zi_I f e T x ∧ zp_F [1, 16] [] s x) (fun q => arr (Or.inr q)) (fun q2 => ?_))
  have q2' : ¬ zz_g 1 (zz_g 16 (nI i) 3 s) 2 s ≤ zX6_nextBlock (nI i) s := q2
  obtain ⟨R, a4, ac⟩ := zm_enter i60 (zz_g 16 (nI i) 3 s) (zX6_nextBlock (nI i) s) s
  obtain ⟨b, eb⟩ : ∃ b, b = zX6_enter (nI i) (zz_g 16 (nI i) 3 s) (zX6_nextBlock (nI i) s) s := ⟨_, rfl⟩
  rw [← eb] at R a4 ac ⊢
  have c2 : zi_how i b = 1 := (ac 2 (by decide) (by decide) (by decide) (by decide)).trans h1
  have c3 := ac 3 (by decide) (by decide) (by decide) (by decide)
  have c11 := ac 11 (by decide) (by decide) (by decide) (by decide)
  refine ⟨zm_row hi H R (ac 0 (by decide) (by decide) (by decide) (by decide)) (ac 14 (by decide) (by decide) (by decide) (by decide)) (ac 15 (by decide) (by decide) (by decide) (by decide)) hn3 ⟨⟨1, by decide, c2⟩, fun _ => ⟨⟨l, hl, c3.trans e3⟩, by rw [a4]; exact Int32.not_lt.mp q1⟩, fun q => absurd c2 q, fun q => ?_, ?_, ?_⟩ (fun j hj hne hc => ?_) (fun y hy => ?_), R.1⟩
  · rw [c2] at q; rcases q with q | q <;> exact absurd q (by decide)
  · rw [ac 12 (by decide) (by decide) (by decide) (by decide)]; exact hT1.2.2.2.2.1
  · rw [ac 10 (by decide) (by decide) (by decide) (by decide)]; exact hT1.2.2.2.2.2
  · obtain ⟨p1, p2, p3, p4⟩ := hc
    obtain ⟨f2, f3, f4, f10, f11, f12⟩ := R.same (j := j) (by omega) hne
    unfold zi_how at p2
    rw [f2] at p2
    rw [c3, f3] at p3
    rw [c11, f11, a4, f4, c3, e3, zq_1 R.q (by decide) hl] at p4
    by_cases w : zz_g 16 (nI i) 11 s = zz_g 16 (nI j) 11 s
    · rw [if_pos w] at p4
      exact hW.2 q1 q2' j hj p2 p3.symm p4.symm w.symm
    · rw [if_neg w] at p4
      refine H.2.2.2.2.2.2.2.1.2 i j hi hj (fun z => hne z.symm) ⟨h1, p2, p3, ?_⟩
      rw [if_neg w, e3]
      exact p4
  · obtain ⟨z1, z2⟩ := zm_fg0 (i := i) (s := y) (b := b) (Or.inl c2)
    have G := H.2.2.2.2.2.2.2.2.1 y hy
    omega
theorem zm_run {f : Nat → Int32} {e T i : Nat} {s : zz_T} (hi : i < T) (H : zi_I f e T s) (h1 : zi_how i s = 1) (k : Bool) (hW : k = true → zm_W T i s ∨ 1 < zz_g 16 (nI i) 5 s) : zi_I f e T (zX6_run (nI i) k s) ∧ zp_F [1, 16] [] s (zX6_run (nI i) k s) := by
  have h60 := H.1.2.2.2.2.1
  have i60 : i < 60 := by omega
  have no : ∀ b : zz_T, zi_I f e T b → zp_F [1, 16] [] s b → zi_I f e T (zX6_run_22 (nI i) false b) ∧ zp_F [1, 16] [] s (zX6_run_22 (nI i) false b) := fun b hb hF => by
    unfold zX6_run_22
    refine zp_if (fun x => zi_I f e T x ∧ zp_F [1, 16] [] s x) (fun _ => ⟨hb, hF⟩) (fun _ => ?_)
    rw [if_neg (by decide)]
    exact ⟨hb, hF⟩
  have hadd : zi_I f e T (zz_add 16 (nI i) 5 (-1) s) := zi_I_set (t := 16) (by decide) (show i < 60 from i60) (by decide) (by decide) H
  have fadd : zp_F [1, 16] [] s (zz_add 16 (nI i) 5 (-1) s) := zp_F.rfl.add (by decide)
  unfold zX6_run
  simp only [zz_v]
  cases k with
  | false => exact zp_if (fun x => zi_I f e T x ∧ zp_F [1, 16] [] s x) (fun _ => no _ H .rfl) (fun _ => no _ hadd fadd)
  | true =>
    refine zp_if (fun x => zi_I f e T x ∧ zp_F [1, 16] [] s x) (fun q => ?_) (fun q => ?_)
    · rcases hW rfl with w | w
      · exact zm_run22 hi H h1 w
      · exact absurd (Int32.lt_of_lt_of_le w q) (by decide)
    · rcases hW rfl with w | w
      · have hh : ∀ j, j < 60 → ∀ c : Int32, c = 2 ∨ c = 3 ∨ c = 4 ∨ c = 11 → zz_g 16 (nI j) c (zz_add 16 (nI i) 5 (-1) s) = zz_g 16 (nI j) c s := fun j hj c hc => by
          have hc16 : 0 ≤ c ∧ c < 16 := by rcases hc with rfl | rfl | rfl | rfl <;> decide
          have n5 : c ≠ 5 := by rcases hc with rfl | rfl | rfl | rfl <;> decide
          rw [za16 i60 hj (by decide) hc16, if_neg (fun z => n5 z.2)]
        obtain ⟨p1, p2⟩ := zm_run22 hi hadd ((hh i i60 2 (by simp)).trans h1) (zm_W_of hi h60 (fun r c => zp_gan (by decide)) hh w)
        exact ⟨p1, fadd.trans p2⟩
      · unfold zX6_run_22
        rw [if_pos]
        · exact ⟨hadd, fadd⟩
        · rw [za16 i60 i60 (by decide) (by decide), if_pos ⟨rfl, rfl⟩]
          obtain ⟨j, hj, ej⟩ := nI_of (x := zz_g 16 (nI i) 5 s) (Int32.not_lt.mpr (Int32.le_of_lt (Int32.lt_trans (by decide : (0 : Int32) < 1) w)))
          rw [ej] at w ⊢
          have hj1 : 1 < j := (nI_ltI (a := 1) (by decide) hj).mp w
          obtain ⟨k, rfl⟩ : ∃ k, j = k + 1 := ⟨j - 1, by omega⟩
          rw [zp_nm]
          exact nI_lt (a := 0) (by omega) (by omega)
