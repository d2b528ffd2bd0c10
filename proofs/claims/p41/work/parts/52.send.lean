/-! PURE: LOADS that go -/
/-- what is so behind a departure: one TRAIN more, an ENGINE less -/
def zs_new (T : Nat) (v1 v3 v4 : Int32) (a b : zz_T) : Prop := zp_F [0, 16] [5] a b ∧ b.2 5 = nI (T + 1) ∧ (∀ i, i < 60 → i ≠ T → ∀ c : Int32, 0 ≤ c ∧ c < 16 → zz_g 16 (nI i) c b = zz_g 16 (nI i) c a) ∧
  (zz_g 16 (nI T) 0 b = v1 ∧ zz_g 16 (nI T) 2 b = 0 ∧ zz_g 16 (nI T) 3 b = v4 ∧ zz_g 16 (nI T) 4 b = -1 ∧ zz_g 16 (nI T) 10 b = zz_g 6 v3 2 a ∧ zz_g 16 (nI T) 12 b = v4 ∧ zz_g 16 (nI T) 14 b = v3 ∧ zz_g 16 (nI T) 15 b = -1) ∧ ∀ r c, zz_g 0 r c b = zz_g 0 r c (zz_add 0 v4 2 (-1) a)
set_option maxHeartbeats 4000000 in
theorem zs_depart {T : Nat} {v1 v2 v3 v4 : Int32} {a : zz_T} (hT : T < 60) (h5 : a.2 5 = nI T) : zs_new T v1 v3 v4 a (zX8_depart v1 v2 v3 v4 a) := by
  have ex : ∃ A7 A9 A10 A13 : Int32, A10 = zz_g 6 v3 2 a ∧ zX8_depart v1 v2 v3 v4 a = zz_add 0 v4 2 (-1) (zz_set 16 (nI T) 7 A7 (zz_set 16 (nI T) 13 A13 (zz_set 16 (nI T) 10 A10 (zz_set 16 (nI T) 9 A9 (zz_set 16 (nI T) 14 v3 (zz_S 5 (nI T + 1) (zz_set 16 (nI T) 15 (-1) (zz_set 16 (nI T) 12 v4 (zz_set 16 (nI T) 4 (-1) (zz_set 16 (nI T) 3 v4 (zz_set 16 (nI T) 2 0 (zz_set 16 (nI T) 1 v2 (zz_set 16 (nI T) 0 v1 a))))))))))))) := by
    unfold zX8_depart zX6_stand zX6_set zX1_addEngines
    simp only [zz_v, zp_s2, h5]
    refine ⟨_, _, _, _, ?_, rfl⟩
    unfold zX2_get
    simp only [zp_gS, zp_gn (show (6 + 0 : Nat) ≠ 16 by decide)]
  obtain ⟨A7, A9, A10, A13, e10, eb⟩ := ex
  obtain ⟨b, hb⟩ : ∃ b, b = zX8_depart v1 v2 v3 v4 a := ⟨_, rfl⟩
  rw [← hb] at eb ⊢
  refine ⟨?_, ?_, fun i hi hne c hc => ?_, ⟨?_, ?_, ?_, ?_, ?_, ?_, ?_, ?_⟩, fun r c => ?_⟩
  · rw [eb]
    exact (((((((((((((zp_F.rfl.set (by decide)).set (by decide)).set (by decide)).set (by decide)).set (by decide)).set (by decide)).set (by decide)).S (by decide)).set (by decide)).set (by decide)).set (by decide)).set (by decide)).set (by decide)).add (by decide)
  · rw [eb, zp_a2, zp_s2, zp_s2, zp_s2, zp_s2, zp_s2, zp_SS, if_pos rfl, nI_1]
  · rw [eb, zp_gan (by decide), zg16 hT hi (by decide) hc, if_neg (fun q => hne q.1), zg16 hT hi (by decide) hc, if_neg (fun q => hne q.1), zg16 hT hi (by decide) hc, if_neg (fun q => hne q.1), zg16 hT hi (by decide) hc, if_neg (fun q => hne q.1), zg16 hT hi (by decide) hc, if_neg (fun q => hne q.1), zp_gS, zg16 hT hi (by decide) hc, if_neg (fun q => hne q.1), zg16 hT hi (by decide) hc, if_neg (fun q => hne q.1), zg16 hT hi (by decide) hc, if_neg (fun q => hne q.1), zg16 hT hi (by decide) hc, if_neg (fun q => hne q.1), zg16 hT hi (by decide) hc, if_neg (fun q => hne q.1), zg16 hT hi (by decide) hc, if_neg (fun q => hne q.1), zg16 hT hi (by decide) hc, if_neg (fun q => hne q.1)]
  · rw [eb, zp_gan (by decide), zg16 hT hT (by decide) (by decide), if_neg (fun q => absurd q.2 (by decide)), zg16 hT hT (by decide) (by decide), if_neg (fun q => absurd q.2 (by decide)), zg16 hT hT (by decide) (by decide), if_neg (fun q => absurd q.2 (by decide)), zg16 hT hT (by decide) (by decide), if_neg (fun q => absurd q.2 (by decide)), zg16 hT hT (by decide) (by decide), if_neg (fun q => absurd q.2 (by decide)), zp_gS, zg16 hT hT (by decide) (by decide), if_neg (fun q => absurd q.2 (by decide)), zg16 hT hT (by decide) (by decide), if_neg (fun q => absurd q.2 (by decide)), zg16 hT hT (by decide) (by decide), if_neg (fun q => absurd q.2 (by decide)), zg16 hT hT (by decide) (by decide), if_neg (fun q => absurd q.2 (by decide)), zg16 hT hT (by decide) (by decide), if_neg (fun q => absurd q.2 (by decide)), zg16 hT hT (by decide) (by decide), if_neg (fun q => absurd q.2 (by decide)), zg16 hT hT (by decide) (by decide), if_pos ⟨rfl, rfl⟩]
  · rw [eb, zp_gan (by decide), zg16 hT hT (by decide) (by decide), if_neg (fun q => absurd q.2 (by decide)), zg16 hT hT (by decide) (by decide), if_neg (fun q => absurd q.2 (by decide)), zg16 hT hT (by decide) (by decide), if_neg (fun q => absurd q.2 (by decide)), zg16 hT hT (by decide) (by decide), if_neg (fun q => absurd q.2 (by decide)), zg16 hT hT (by decide) (by decide), if_neg (fun q => absurd q.2 (by decide)), zp_gS, zg16 hT hT (by decide) (by decide), if_neg (fun q => absurd q.2 (by decide)), zg16 hT hT (by decide) (by decide), if_neg (fun q => absurd q.2 (by decide)), zg16 hT hT (by decide) (by decide), if_neg (fun q => absurd q.2 (by decide)), zg16 hT hT (by decide) (by decide), if_neg (fun q => absurd q.2 (by decide)), zg16 hT hT (by decide) (by decide), if_pos ⟨rfl, rfl⟩]
  · rw [eb, zp_gan (by decide), zg16 hT hT (by decide) (by decide), if_neg (fun q => absurd q.2 (by decide)), zg16 hT hT (by decide) (by decide), if_neg (fun q => absurd q.2 (by decide)), zg16 hT hT (by decide) (by decide), if_neg (fun q => absurd q.2 (by decide)), zg16 hT hT (by decide) (by decide), if_neg (fun q => absurd q.2 (by decide)), zg16 hT hT (by decide) (by decide), if_neg (fun q => absurd q.2 (by decide)), zp_gS, zg16 hT hT (by decide) (by decide), if_neg (fun q => absurd q.2 (by decide)), zg16 hT hT (by decide) (by decide), if_neg (fun q => absurd q.2 (by decide)), zg16 hT hT (by decide) (by decide), if_neg (fun q => absurd q.2 (by decide)), zg16 hT hT (by decide) (by decide), if_pos ⟨rfl, rfl⟩]
  · rw [eb, zp_gan (by decide), zg16 hT hT (by decide) (by decide), if_neg (fun q => absurd q.2 (by decide)), zg16 hT hT (by decide) (by decide), if_neg (fun q => absurd q.2 (by decide)), zg16 hT hT (by decide) (by decide), if_neg (fun q => absurd q.2 (by decide)), zg16 hT hT (by decide) (by decide), if_neg (fun q => absurd q.2 (by decide)), zg16 hT hT (by decide) (by decide), if_neg (fun q => absurd q.2 (by decide)), zp_gS, zg16 hT hT (by decide) (by decide), if_neg (fun q => absurd q.2 (by decide)), zg16 hT hT (by decide) (by decide), if_neg (fun q => absurd q.2 (by decide)), zg16 hT hT (by decide) (by decide), if_pos ⟨rfl, rfl⟩]
  · rw [eb, zp_gan (by decide), zg16 hT hT (by decide) (by decide), if_neg (fun q => absurd q.2 (by decide)), zg16 hT hT (by decide) (by decide), if_neg (fun q => absurd q.2 (by decide)), zg16 hT hT (by decide) (by decide), if_pos ⟨rfl, rfl⟩, e10]
  · rw [eb, zp_gan (by decide), zg16 hT hT (by decide) (by decide), if_neg (fun q => absurd q.2 (by decide)), zg16 hT hT (by decide) (by decide), if_neg (fun q => absurd q.2 (by decide)), zg16 hT hT (by decide) (by decide), if_neg (fun q => absurd q.2 (by decide)), zg16 hT hT (by decide) (by decide), if_neg (fun q => absurd q.2 (by decide)), zg16 hT hT (by decide) (by decide), if_neg (fun q => absurd q.2 (by decide)), zp_gS, zg16 hT hT (by decide) (by decide), if_neg (fun q => absurd q.2 (by decide)), zg16 hT hT (by decide) (by decide), if_pos ⟨rfl, rfl⟩]
  · rw [eb, zp_gan (by decide), zg16 hT hT (by decide) (by decide), if_neg (fun q => absurd q.2 (by decide)), zg16 hT hT (by decide) (by decide), if_neg (fun q => absurd q.2 (by decide)), zg16 hT hT (by decide) (by decide), if_neg (fun q => absurd q.2 (by decide)), zg16 hT hT (by decide) (by decide), if_neg (fun q => absurd q.2 (by decide)), zg16 hT hT (by decide) (by decide), if_pos ⟨rfl, rfl⟩]
  · rw [eb, zp_gan (by decide), zg16 hT hT (by decide) (by decide), if_neg (fun q => absurd q.2 (by decide)), zg16 hT hT (by decide) (by decide), if_neg (fun q => absurd q.2 (by decide)), zg16 hT hT (by decide) (by decide), if_neg (fun q => absurd q.2 (by decide)), zg16 hT hT (by decide) (by decide), if_neg (fun q => absurd q.2 (by decide)), zg16 hT hT (by decide) (by decide), if_neg (fun q => absurd q.2 (by decide)), zp_gS, zg16 hT hT (by decide) (by decide), if_pos ⟨rfl, rfl⟩]
  · have e0 : ∀ s s' : zz_T, s.1 0 = s'.1 0 → zz_g 0 r c (zz_add 0 v4 2 (-1) s) = zz_g 0 r c (zz_add 0 v4 2 (-1) s') := fun s s' h => by
      have eg : ∀ x y, zz_g 0 x y s = zz_g 0 x y s' := fun x y => by unfold zz_g; rw [h]
      unfold zz_add zz_set
      rw [eg v4 2]
      by_cases hin : zz_in 0 v4 2
      · rw [if_pos hin, if_pos hin]
        unfold zz_g zz_up
        simp only [if_true]
        rw [h]
      · rw [if_neg hin, if_neg hin]; exact eg r c
    rw [eb]
    refine e0 _ _ ?_
    have hF : zp_F [16] [5] a (zz_set 16 (nI T) 7 A7 (zz_set 16 (nI T) 13 A13 (zz_set 16 (nI T) 10 A10 (zz_set 16 (nI T) 9 A9 (zz_set 16 (nI T) 14 v3 (zz_S 5 (nI T + 1) (zz_set 16 (nI T) 15 (-1) (zz_set 16 (nI T) 12 v4 (zz_set 16 (nI T) 4 (-1) (zz_set 16 (nI T) 3 v4 (zz_set 16 (nI T) 2 0 (zz_set 16 (nI T) 1 v2 (zz_set 16 (nI T) 0 v1 a))))))))))))) := ((((((((((((zp_F.rfl.set (by decide)).set (by decide)).set (by decide)).set (by decide)).set (by decide)).set (by decide)).set (by decide)).S (by decide)).set (by decide)).set (by decide)).set (by decide)).set (by decide)).set (by decide)
    exact hF.1 0 (by decide)
/-- trains, guests and engines behind it -/
theorem zs_TGE {T h : Nat} {v1 v3 : Int32} {a b : zz_T} (hT : T < 60) (hh : h < 6) (hn : zs_new T v1 v3 (nI h) a b) (hsec : zp_bl 3 (zz_g 6 v3 2 a)) (heng : ¬ zz_g 0 (nI h) 2 a ≤ 0) (H1 : zi_T T a) (H2 : zi_G T a) (H3 : zi_E T a) : zi_T (T + 1) b ∧ zi_G (T + 1) b ∧ zi_E (T + 1) b := by
  obtain ⟨hF, h5, hrow, ⟨r0, r2, r3, r4, r10, r12, r14, r15⟩, h0⟩ := hn
  have same : ∀ i, i < T → zt_same i a b := fun i hi => ⟨hrow i (by omega) (by omega) 2 (by decide), hrow i (by omega) (by omega) 3 (by decide), hrow i (by omega) (by omega) 4 (by decide), hrow i (by omega) (by omega) 10 (by decide), hrow i (by omega) (by omega) 11 (by decide), hrow i (by omega) (by omega) 12 (by decide)⟩
  have how : zi_how T b = 0 := r2
  refine ⟨zi_T_ext T (fun i hi hne => by omega) (fun i hi _ => same i hi) (fun l hl => hF.g (by decide) _ _) (fun _ => ⟨?_, fun j hj hne hc => ?_⟩) H1, fun s hs => ?_, ?_⟩
  · refine ⟨⟨0, by decide, how⟩, fun q => ?_, fun _ => r4, fun _ => ⟨h, hh, r3⟩, ⟨h, hh, r12⟩, by rw [r10]; exact hsec⟩
    rw [how] at q
    exact absurd q (by decide)
  · have := hc.1
    rw [how] at this
    exact absurd this (by decide)
  · have f1 : zp_s (zi_fg s b) 0 T = zp_s (zi_fg s a) 0 T := zp_s_congr T 0 (fun i _ hi => zi_fg_same (s := s) (same i (by omega)))
    have f2 : zp_s (zi_fu s b) 0 T = zp_s (zi_fu s a) 0 T := zp_s_congr T 0 (fun i _ hi => zi_fu_same (s := s) (same i (by omega)))
    rw [zp_s_snoc (zi_fg s b) T 0, zp_s_snoc (zi_fu s b) T 0, Nat.zero_add, f1, f2]
    have g1 : zi_fg s b T = 0 := zp_b0 (fun q => q.2.2 (by rw [r12, ← r3]; exact q.2.1))
    have g2 : zi_fu s b T = 0 := zp_b0 (fun q => by rw [how] at q; exact absurd q.1 (by decide))
    have := H2 s hs
    omega
  · obtain ⟨m, m1, m2⟩ := H3
    have m2 : zp_s m 0 6 + zp_s (ze_h a) 0 T + zp_s (ze_b a) 0 T ≤ 24 := m2
    have hm : m h ≤ 24 := by
      have := zp_s_pos (f := m) (j := h) 6 0 (Nat.zero_le _) (by omega)
      omega
    have hm0 : m h ≠ 0 := fun q => heng (by rw [m1 h hh, q]; exact Int32.le_refl _)
    obtain ⟨k, ek⟩ : ∃ k, m h = k + 1 := ⟨m h - 1, by omega⟩
    refine ⟨fun x => if x = h then k else m x, fun x hx => ?_, ?_⟩
    · rw [h0, za0 (by omega) (by omega) (by decide) (by decide)]
      by_cases q : x = h
      · rw [if_pos ⟨q, rfl⟩]
        show _ = nI (if x = h then k else m x)
        rw [if_pos q, m1 h hh, ek, zp_nm]
      · rw [if_neg (fun r => q r.1)]
        show _ = nI (if x = h then k else m x)
        rw [if_neg q]
        exact m1 x hx
    · have i1 := zp_s_inc (m := m) (m' := fun x => if x = h then k else m x) hh (fun x hx => if_neg hx)
      rw [if_pos rfl] at i1
      have i2 : zp_s (ze_h b) 0 T = zp_s (ze_h a) 0 T := ze_sums (fun i hi => (same i hi).1)
      have i3 : zp_s (ze_b b) 0 T = zp_s (ze_b a) 0 T := zp_s_congr T 0 (fun i _ hi => by unfold ze_b; rw [hrow i (by omega) (by omega) 15 (by decide)])
      have i4 : ze_h b T = 1 := zp_b1 (by rw [how]; decide)
      have i5 : ze_b b T = 0 := zp_b0 (fun w => w r15)
      show zp_s (fun x => if x = h then k else m x) 0 6 + zp_s (ze_h b) 0 (T + 1) + zp_s (ze_b b) 0 (T + 1) ≤ 24
      rw [zp_s_snoc (ze_h b) T 0, zp_s_snoc (ze_b b) T 0, Nat.zero_add]
      omega
theorem zk_go {e T : Nat} {st : zz_T} {v1 v2 : Int32} (hN : zi_N e T st) (h : zX8_canGo v1 v2 st = true) : zX2_isKept 6 v1 st = true ∧ ¬ zz_g 0 v2 2 st ≤ 0 ∧ T < 60 := by
  unfold zX8_canGo at h
  by_cases h1 : zX2_isKept 6 v1 st = true
  · rw [if_pos h1] at h
    by_cases h2 : st.2 0 < zX2_get 6 v1 0 st
    · rw [if_pos h2] at h; exact absurd h (by decide)
    · rw [if_neg h2] at h
      by_cases h3 : zX1_getStation v2 2 st ≤ 0
      · rw [if_pos h3] at h; exact absurd h (by decide)
      · rw [if_neg h3] at h
        by_cases h4 : 60 ≤ zX6_count st
        · rw [if_pos h4] at h; exact absurd h (by decide)
        · refine ⟨h1, h3, ?_⟩
          rw [show zX6_count st = nI T from hN.2.2.2.1] at h4
          exact Nat.lt_of_not_le (fun q => h4 (nI_le (a := 60) q (by have := hN.2.2.2.2.1; omega)))
  · rw [if_neg h1] at h; exact absurd h (by decide)
/-- what a departure, and what is noted of it, may touch -/
def zqD : Nat → List Int32
  | 0 => [2, 3, 4]
  | 4 => [4, 5, 7, 10, 11, 12]
  | 5 => [1, 2]
  | 16 => zqw
  | t => zq0 t
theorem zi_I_D {f : Nat → Int32} {e T T' : Nat} {a b : zz_T} (h : zq zqD [5] a b) (h3 : zp_all 3 (zp_li 8) b) (hT' : T' ≤ 60) (h5 : b.2 5 = nI T') (hS : zi_S b) (hT : zi_T T' b) (hG : zi_G T' b) (hE : zi_E T' b) (hD : zi_D T' b) (H : zi_I f e T a) : zi_I f e T' b := by
  obtain ⟨hN, hL, hU, hX, -, hK, hP, -, -, -, -⟩ := H
  refine ⟨?_, zq_L h (by decide) (by decide) h3 hL, zq_U h (by decide) rfl hU, zq_X h (by decide) (by decide) hX, hS, zq_K h (by decide) (by decide) (by decide) hK, zq_P h (by decide) rfl rfl rfl rfl (by decide) hP, hT, hG, hE, hD⟩
  obtain ⟨n1, n2, n3, n4, n5, n6, n7, n8⟩ := hN
  exact ⟨(h.2 2 (by decide)).trans n1, (h.2 3 (by decide)).trans n2, (h.2 4 (by decide)).trans n3, h5, hT', by rw [h.2 0 (by decide)]; exact n6, by rw [h.2 6 (by decide)]; exact n7, (h.2 7 (by decide)).trans n8⟩
theorem zs_D {T : Nat} {v1 v3 v4 : Int32} {a b c : zz_T} (hT : T < 60) (hn : zs_new T v1 v3 v4 a b) (hc : ∀ i, i < 60 → ∀ x : Int32, 0 ≤ x ∧ x < 16 → zz_g 16 (nI i) x c = zz_g 16 (nI i) x b) (hd : ∀ i, i < T → zi_D1 i a → zi_D1 i c) (hnew : zi_D1 T c) (hne : v1 ≠ -1 → ∀ i, i < T → zi_D1 i a → zz_g 16 (nI i) 0 a ≠ -1 → zz_g 16 (nI i) 14 a ≠ v3) (H : zi_D T a) : zi_D (T + 1) c := by
  obtain ⟨hF, h5, hrow, ⟨r0, r2, r3, r4, r10, r12, r14, r15⟩, h0⟩ := hn
  have old : ∀ i, i < T → ∀ x : Int32, 0 ≤ x ∧ x < 16 → zz_g 16 (nI i) x c = zz_g 16 (nI i) x a := fun i hi x hx => by rw [hc i (by omega) x hx, hrow i (by omega) (by omega) x hx]
  have how : ∀ i, i < T → zi_how i c = zi_how i a := fun i hi => old i hi 2 (by decide)
  have n0 : zz_g 16 (nI T) 0 c = v1 := (hc T hT 0 (by decide)).trans r0
  have n14 : zz_g 16 (nI T) 14 c = v3 := (hc T hT 14 (by decide)).trans r14
  refine ⟨fun i hi hh => ?_, fun i j hi hj hij hhi hhj hi0 hj0 => ?_⟩
  · by_cases q : i = T
    · rw [q]; exact hnew
    · exact hd i (by omega) (H.1 i (by omega) (by rw [← how i (by omega)]; exact hh))
  · by_cases q : i = T
    · subst q
      rw [n14, old j (by omega) 14 (by decide)]
      rw [n0] at hi0
      rw [old j (by omega) 0 (by decide)] at hj0
      exact fun w => hne hi0 j (by omega) (H.1 j (by omega) (by rw [← how j (by omega)]; exact hhj)) hj0 w.symm
    · by_cases q' : j = T
      · subst q'
        rw [n14, old i (by omega) 14 (by decide)]
        rw [n0] at hj0
        rw [old i (by omega) 0 (by decide)] at hi0
        exact hne hj0 i (by omega) (H.1 i (by omega) (by rw [← how i (by omega)]; exact hhi)) hi0
      · rw [old i (by omega) 14 (by decide), old j (by omega) 14 (by decide)]
        rw [old i (by omega) 0 (by decide)] at hi0
        rw [old j (by omega) 0 (by decide)] at hj0
        exact H.2 i j (by omega) (by omega) hij (by rw [← how i (by omega)]; exact hhi) (by rw [← how j (by omega)]; exact hhj) hi0 hj0
/-- a LOAD goes -/
theorem zs_load {f : Nat → Int32} {e T u k h r : Nat} {v2 : Int32} {s : zz_T} (hu : u < 6) (hh : h < 6) (hg : zz_g 4 (nI u) 7 s = nI k) (hr : zz_g 4 (nI u) 6 s = nI r) (hkr : k < r) (hr8 : r ≤ 8) (hgo : zX8_canGo (nI (8 * u + k)) (nI h) s = true) (H : zi_I f e T s) :
    zi_I f e (T + 1) (zX7_leave (nI u) (nI (8 * u + k)) (zX2_get 6 (nI (8 * u + k)) 2 (zX8_depart (nI u) v2 (nI (8 * u + k)) (nI h) s)) (zX8_depart (nI u) v2 (nI (8 * u + k)) (nI h) s)) ∧
    zp_F [0, 16, 4, 5] [5] s (zX7_leave (nI u) (nI (8 * u + k)) (zX2_get 6 (nI (8 * u + k)) 2 (zX8_depart (nI u) v2 (nI (8 * u + k)) (nI h) s)) (zX8_depart (nI u) v2 (nI (8 * u + k)) (nI h) s)) ∧
    ∀ x, x < 6 → ∀ c : Int32, 0 ≤ c ∧ c < 13 → zz_g 4 (nI x) c (zX7_leave (nI u) (nI (8 * u + k)) (zX2_get 6 (nI (8 * u + k)) 2 (zX8_depart (nI u) v2 (nI (8 * u + k)) (nI h) s)) (zX8_depart (nI u) v2 (nI (8 * u + k)) (nI h) s)) = if x = u ∧ c = 7 then nI (k + 1) else zz_g 4 (nI x) c s := by
  obtain ⟨g1, g2, hT⟩ := zk_go H.1 hgo
  have hkept := (zr_isKept 6 (8 * u + k) s).mp g1
  have hsec : zp_bl 3 (zz_g 6 (nI (8 * u + k)) 2 s) := (H.2.2.2.2.2.2.1.1 _ (by omega) hkept).2.1
  obtain ⟨L, g, r', s1, s2, s3, s4, s5, s6, s7, s8, s9, s10⟩ := H.2.2.2.2.1 u hu
  have eg : g = k := (nI_eq (by omega) (by omega)).mp (s4.symm.trans hg)
  have er : r' = r := (nI_eq (by omega) (by omega)).mp (s5.symm.trans hr)
  subst eg er
  obtain ⟨b, eb⟩ : ∃ b, b = zX8_depart (nI u) v2 (nI (8 * u + g)) (nI h) s := ⟨_, rfl⟩
  have hn : zs_new T (nI u) (nI (8 * u + g)) (nI h) s b := by rw [eb]; exact zs_depart hT H.1.2.2.2.1
  rw [← eb]
  obtain ⟨c, ec⟩ : ∃ c, c = zX7_leave (nI u) (nI (8 * u + g)) (zX2_get 6 (nI (8 * u + g)) 2 b) b := ⟨_, rfl⟩
  rw [← ec]
  have dc : c = zz_add 4 (nI u) 7 1 (zz_set 5 (nI (8 * u + g)) 1 (zX2_get 6 (nI (8 * u + g)) 2 b) b) := ec
  have hFb := hn.1
  have hFc : zp_F [4, 5] [] b c := by rw [dc]; exact (zp_F.rfl.set (by decide)).add (by decide)
  have hF : zp_F [0, 16, 4, 5] [5] s c := (hFb.mono (by decide) (by decide)).trans (hFc.mono (by decide) (by decide))
  have g4 : ∀ x, x < 6 → ∀ y : Int32, 0 ≤ y ∧ y < 13 → zz_g 4 (nI x) y c = if x = u ∧ y = 7 then nI (g + 1) else zz_g 4 (nI x) y s := fun x hx y hy => by
    rw [dc, za4 hu hx (by decide) hy, zp_gn (by decide), zp_gn (by decide), hFb.g (by decide), hFb.g (by decide), s4, nI_1]
  have g5 : ∀ x, x < 48 → ∀ y : Int32, 0 ≤ y ∧ y < 3 → zz_g 5 (nI x) y c = if x = 8 * u + g ∧ y = 1 then zz_g 6 (nI (8 * u + g)) 2 s else zz_g 5 (nI x) y s := fun x hx y hy => by
    rw [dc, zp_gan (by decide), zg5 (by omega) hx (by decide) hy, hFb.g (by decide), show zX2_get 6 (nI (8 * u + g)) 2 b = zz_g 6 (nI (8 * u + g)) 2 s from hFb.g (by decide) _ _]
  refine ⟨?_, hF, g4⟩
  obtain ⟨t1, t2, t3⟩ := zs_TGE hT hh hn hsec g2 H.2.2.2.2.2.2.2.1 H.2.2.2.2.2.2.2.2.1 H.2.2.2.2.2.2.2.2.2.1
  have hqs : zq zqD [5] s c := by
    refine ⟨fun t ht x hx y hy hny => ?_, fun j hj => hF.2 j hj⟩
    by_cases q16 : t = 16
    · subst q16; exact absurd (zqw_all ht hy) hny
    · by_cases q4 : t = 4
      · subst q4
        rw [g4 x hx y hy, if_neg (fun q => hny (by rw [q.2]; decide))]
      · by_cases q5 : t = 5
        · subst q5
          rw [g5 x hx y hy, if_neg (fun q => hny (by rw [q.2]; decide))]
        · by_cases q0 : t = 0
          · subst q0
            rw [hFc.g (by decide), hn.2.2.2.2, za0 (by omega) hx (by decide) hy, if_neg (fun q => hny (by rw [q.2]; decide))]
          · exact hF.g (by simp; omega) _ _
  have hbc : zq zqS [] b c := by
    rw [dc]
    exact (zq_rf.set (by decide) (show 8 * u + g < 48 by omega) (by decide) (by decide)).add (by decide) (show u < zp_R 4 from hu) (by decide) (by decide)
  have e0 : ∀ u', u' < 6 → ∀ l, l < 8 → zz_g 5 (nI (8 * u' + l)) 0 c = zz_g 5 (nI (8 * u' + l)) 0 s := fun u' hu' l hl => by
    rw [g5 _ (by omega) 0 (by decide), if_neg (fun q => absurd q.2 (by decide))]
  refine zi_I_D hqs (zp_all.F hF (by decide) H.2.1.2.2) hT ((hFc.s (by decide)).trans hn.2.1) (zi_S_ext u (fun x hx hne y hy => ?_) (fun x l hx hne hl y hy => ?_) (fun _ => ?_) H.2.2.2.2.1) (zq_T hT hbc (by decide) (by decide) t1) (zq_G hT hbc (by decide) t2) (zq_E hT hbc (by decide) (by decide) t3) ?_ H
  · have hc13 : 0 ≤ y ∧ y < 13 := by rcases hy with rfl | rfl | rfl | rfl | rfl <;> decide
    rw [g4 x hx y hc13, if_neg (fun q => hne q.1)]
  · have hc3 : 0 ≤ y ∧ y < 3 := by rcases hy with rfl | rfl <;> decide
    rw [g5 _ (by omega) y hc3, if_neg (fun q => by omega)]
  · have c0 : zp_s (zi_c0 u c) 0 L = zp_s (zi_c0 u s) 0 L := zp_s_congr L 0 (fun j _ hj => by unfold zi_c0; rw [e0 u hu j (by omega)])
    have c2 : zp_s (zi_c2 u c) 0 L = zp_s (zi_c2 u s) 0 L := zp_s_congr L 0 (fun j _ hj => by unfold zi_c2; rw [e0 u hu j (by omega)])
    refine ⟨L, g + 1, r', ?_, s2, s3, ?_, ?_, by omega, s7, ?_, ?_, fun l hl => ?_⟩
    · rw [g4 u hu 1 (by decide), if_neg (fun q => absurd q.2 (by decide))]; exact s1
    · rw [g4 u hu 7 (by decide), if_pos ⟨rfl, rfl⟩]
    · rw [g4 u hu 6 (by decide), if_neg (fun q => absurd q.2 (by decide))]; exact s5
    · rw [g4 u hu 8 (by decide), if_neg (fun q => absurd q.2 (by decide)), c0]; exact s8
    · rw [g4 u hu 9 (by decide), if_neg (fun q => absurd q.2 (by decide)), c2]; exact s9
    · obtain ⟨p1, p2, p3⟩ := s10 l hl
      rw [e0 u hu l hl]
      refine ⟨p1, fun q => p2 (by omega), fun q => ?_⟩
      rw [g5 _ (by omega) 1 (by decide)]
      by_cases w : l = g
      · rw [if_pos ⟨by rw [w], rfl⟩]; exact hsec
      · rw [if_neg (fun z => w (by omega))]; exact p3 (by omega)
  · refine zs_D hT hn (fun i hi x hx => hFc.g (by decide) _ _) (fun i hi hd => zi_D1_mono (a := s) ?_ ?_ (fun u' l g' hu' hl _ _ q3 q4 q5 q6 => ⟨?_, ?_⟩) hd) (Or.inr ⟨u, g, g + 1, hu, by omega, ?_, ?_, ?_, by omega, by omega, ?_⟩) (fun _ i hi hd hi0 w => ?_) H.2.2.2.2.2.2.2.2.2.2
    · rw [hFc.g (by decide), hn.2.2.1 i (by omega) (by omega) 0 (by decide)]
    · rw [hFc.g (by decide), hn.2.2.1 i (by omega) (by omega) 14 (by decide)]
    · rw [g4 u' hu' 7 (by decide)]
      by_cases w : u' = u
      · subst w
        have : g' = g := (nI_eq (by omega) (by omega)).mp (q3.symm.trans s4)
        exact ⟨g + 1, by rw [if_pos ⟨rfl, rfl⟩], by omega, by omega⟩
      · exact ⟨g', by rw [if_neg (fun z => w z.1)]; exact q3, q4, q5⟩
    · rw [e0 u' hu' l hl]; exact q6
    · rw [hFc.g (by decide)]; exact hn.2.2.2.1.1
    · rw [hFc.g (by decide)]; exact hn.2.2.2.1.2.2.2.2.2.2.1
    · rw [g4 u hu 7 (by decide), if_pos ⟨rfl, rfl⟩]
    · rw [e0 u hu g (by omega)]; exact (s10 g (by omega)).2.1 (Nat.le_refl _)
    · rcases hd with ⟨p1, -⟩ | ⟨u', l, g', hu', hl, q1, q2, q3, q4, q5, q6⟩
      · exact hi0 p1
      · rw [q2] at w
        have := (nI_eq (by omega) (by omega)).mp w
        have hu2 : u' = u := by omega
        subst hu2
        have : g' = g := (nI_eq (by omega) (by omega)).mp (q3.symm.trans s4)
        omega
theorem zs_loads {f : Nat → Int32} {e : Nat} {st : zz_T} (H : ∃ T, zi_I f e T st) : zp_ok (zX8_sendLoads st) (fun x => (∃ T, zi_I f e T x) ∧ x.2 0 = st.2 0) := by
  unfold zX8_sendLoads
  refine zp_loop0 (F := fun n v (s : zz_T) => zX8_sendLoads_2 n v s) (N := 6) (by decide) (fun _ s => (∃ T, zi_I f e T s) ∧ s.2 0 = st.2 0) (fun n s hs => ?_) (fun n u s hu hs ih => ?_) ⟨H, rfl⟩
  · obtain ⟨⟨T, hT⟩, h0⟩ := hs
    rw [zX8_sendLoads_2, show zX7_count s = nI 6 from hT.1.2.2.1, if_pos (Int32.le_refl _)]
    exact .ret ⟨⟨T, hT⟩, h0⟩
  · obtain ⟨⟨T, hT⟩, h0⟩ := hs
    rw [zX8_sendLoads_2, show zX7_count s = nI 6 from hT.1.2.2.1, if_neg (nI_ge hu (by decide))]
    simp only [zz_v]
    obtain ⟨L, g, r, s1, s2, s3, s4, s5, s6, s7, -⟩ := hT.2.2.2.2.1 u hu
    obtain ⟨h, hh, eh⟩ := (hT.2.2.1.1 u hu).2.1
    rw [show zX7_get (nI u) 2 s = nI h from eh, show zX7_get (nI u) 7 s = nI g from s4]
    have loop : ∀ (d m k T : Nat) (s : zz_T), k + d = r → d < m → zi_I f e T s → s.2 0 = st.2 0 → zz_g 4 (nI u) 7 s = nI k → zz_g 4 (nI u) 6 s = nI r → zp_ok (zX8_sendLoads_34 (fun v1' st' => zX8_sendLoads_2 n v1' st') m (nI u) (nI h) (nI k) s) (fun x => (∃ T, zi_I f e T x) ∧ x.2 0 = st.2 0) := by
      intro d
      induction d with
      | zero =>
        intro m k T s hk hm hI h0 h7 h6
        obtain ⟨m, rfl⟩ : ∃ j, m = j + 1 := ⟨m - 1, by omega⟩
        obtain rfl : k = r := by omega
        rw [zX8_sendLoads_34, show zX7_get (nI u) 6 s = nI k from h6, if_pos (Int32.le_refl _)]
        exact ih _ ⟨⟨T, hI⟩, h0⟩
      | succ d ih2 =>
        intro m k T s hk hm hI h0 h7 h6
        obtain ⟨m, rfl⟩ : ∃ j, m = j + 1 := ⟨m - 1, by omega⟩
        rw [zX8_sendLoads_34, show zX7_get (nI u) 6 s = nI r from h6, if_neg (nI_ge (by omega) (by omega))]
        simp only [zz_v, zr_slot]
        refine zp_ite (fun _ => zp_ite (fun hgo => ?_) (fun _ => ih _ ⟨⟨T, hI⟩, h0⟩)) (fun _ => ih _ ⟨⟨T, hI⟩, h0⟩)
        obtain ⟨a1, a2, a3⟩ := zs_load (v2 := nI k) hu hh h7 h6 (by omega) (by omega) hgo hI
        rw [nI_1]
        refine ih2 m (k + 1) (T + 1) _ (by omega) (by omega) a1 ((a2.s (by decide)).trans h0) ?_ ?_
        · rw [a3 u hu 7 (by decide), if_pos ⟨rfl, rfl⟩]
        · rw [a3 u hu 6 (by decide), if_neg (fun q => absurd q.2 (by decide))]; exact h6
    exact loop (r - g) zz_N g T s (by omega) (by show _ < 1000; omega) hT h0 s4 s5
/-- SUPPLIES -/
theorem zs_next (v : Int32) (st : zz_T) : zp_ok (zX4_nextBehind v st) (fun x => x = -1 ∨ ∃ w, w < 6 ∧ x = nI w) := by
  unfold zX4_nextBehind
  refine zp_loop0 (F := fun n x (y : Int32) => zX4_nextBehind_4 n v y x st) (N := 6) (by decide) (fun _ x => x = -1 ∨ ∃ w, w < 6 ∧ x = nI w) (fun n y hy => ?_) (fun n k y hk hy ih => ?_) (Or.inl rfl)
  · rw [zX4_nextBehind_4, if_pos (by decide)]; exact .ret hy
  · rw [zX4_nextBehind_4, if_neg (show ¬ (6 : Int32) ≤ nI k from nI_ge (a := k) (b := 6) hk (by decide))]
    have nw : zp_ok (zX4_nextBehind_4 n v (nI k) (nI k + 1) st) (fun x => x = -1 ∨ ∃ w, w < 6 ∧ x = nI w) := ih _ (Or.inr ⟨k, hk, rfl⟩)
    have go : ∀ q : Bool, zp_ok (zX4_nextBehind_40 (fun v1' v2' v3' st' => zX4_nextBehind_4 n v1' v2' v3' st') v y (nI k) q st) (fun x => x = -1 ∨ ∃ w, w < 6 ∧ x = nI w) := fun q => by
      unfold zX4_nextBehind_40
      exact zp_ite (fun _ => zp_ite (fun _ => nw) (fun _ => zp_ite (fun _ => ih _ hy) (fun _ => nw))) (fun _ => ih _ hy)
    exact zp_ite (fun _ => go _) (fun _ => zp_ite (fun _ => go _) (fun _ => go _))
theorem zs_supply {f : Nat → Int32} {e T w : Nat} {v2 : Int32} {s : zz_T} (hw : w < 6) (hgo : zX8_canGo (nI (48 + w)) 0 s = true) (H : zi_I f e T s) : zi_I f e (T + 1) (zX4_leave (nI w) (zX8_depart (-1) v2 (nI (48 + w)) 0 s)) ∧ (zX4_leave (nI w) (zX8_depart (-1) v2 (nI (48 + w)) 0 s)).2 0 = s.2 0 := by
  obtain ⟨g1, g2, hT⟩ := zk_go H.1 hgo
  have hkept := (zr_isKept 6 (48 + w) s).mp g1
  have hsec : zp_bl 3 (zz_g 6 (nI (48 + w)) 2 s) := (H.2.2.2.2.2.2.1.1 _ (by omega) hkept).2.1
  obtain ⟨b, eb⟩ : ∃ b, b = zX8_depart (-1) v2 (nI (48 + w)) 0 s := ⟨_, rfl⟩
  have hn : zs_new T (-1) (nI (48 + w)) (nI 0) s b := by rw [eb]; exact zs_depart hT H.1.2.2.2.1
  rw [← eb]
  obtain ⟨c, ec⟩ : ∃ c, c = zX4_leave (nI w) b := ⟨_, rfl⟩
  rw [← ec]
  have dc : c = zz_set 18 (nI w) 2 1 b := ec
  have hFb := hn.1
  have hFc : zp_F [18] [] b c := by rw [dc]; exact zp_F.rfl.set (by decide)
  have hF : zp_F [0, 16, 18] [5] s c := (hFb.mono (by decide) (by decide)).trans (hFc.mono (by decide) (by decide))
  obtain ⟨t1, t2, t3⟩ := zs_TGE hT (show 0 < 6 by decide) hn hsec g2 H.2.2.2.2.2.2.2.1 H.2.2.2.2.2.2.2.2.1 H.2.2.2.2.2.2.2.2.2.1
  have hqs : zq zqD [5] s c := by
    refine ⟨fun t ht x hx y hy hny => ?_, fun j hj => hF.2 j hj⟩
    by_cases q16 : t = 16
    · subst q16; exact absurd (zqw_all ht hy) hny
    · by_cases q18 : t = 18
      · subst q18
        rw [dc, zg18 hw hx (by decide) hy, if_neg (fun q => hny (by rw [q.2]; decide)), hFb.g (by decide)]
      · by_cases q0 : t = 0
        · subst q0
          rw [hFc.g (by decide), hn.2.2.2.2, za0 (by decide) hx (by decide) hy, if_neg (fun q => hny (by rw [q.2]; decide))]
        · exact hF.g (by simp; omega) _ _
  have hbc : zq (zq1 18 [2]) [] b c := by rw [dc]; exact zq_rf.set (by decide) (show w < zp_R 18 from hw) (by decide) (by decide)
  refine ⟨zi_I_D hqs (zp_all.F hF (by decide) H.2.1.2.2) hT ((hFc.s (by decide)).trans hn.2.1) (zi_S_ext 6 (fun x hx _ y _ => hF.g (by decide) _ _) (fun x l hx _ hl y _ => hF.g (by decide) _ _) (fun q => absurd q (by decide)) H.2.2.2.2.1) (zq_T hT hbc (by decide) (by decide) t1) (zq_G hT hbc (by decide) t2) (zq_E hT hbc (by decide) (by decide) t3) ?_ H, hF.s (by decide)⟩
  · refine zs_D hT hn (fun i hi x hx => hFc.g (by decide) _ _) (fun i hi hd => zi_D1_mono (a := s) ?_ ?_ (fun u' l g' hu' hl _ _ q3 q4 q5 q6 => ⟨⟨g', ?_, q4, q5⟩, ?_⟩) hd) (Or.inl ⟨?_, w, hw, ?_⟩) (fun q => absurd rfl q) H.2.2.2.2.2.2.2.2.2.2
    · rw [hFc.g (by decide), hn.2.2.1 i (by omega) (by omega) 0 (by decide)]
    · rw [hFc.g (by decide), hn.2.2.1 i (by omega) (by omega) 14 (by decide)]
    · rw [hF.g (by decide)]; exact q3
    · rw [hF.g (by decide)]; exact q6
    · rw [hFc.g (by decide)]; exact hn.2.2.2.1.1
    · rw [hFc.g (by decide)]; exact hn.2.2.2.1.2.2.2.2.2.2.1
theorem zs_supplies {f : Nat → Int32} {e : Nat} {st : zz_T} (H : ∃ T, zi_I f e T st) : zp_ok (zX8_sendSupplies st) (fun x => (∃ T, zi_I f e T x) ∧ x.2 0 = st.2 0) := by
  unfold zX8_sendSupplies
  refine (zs_next 0 st).bind (fun x hx => ?_)
  have loop : ∀ (d m k : Nat) (x : Int32) (s : zz_T), k + d = 6 → d < m → (x = -1 ∨ ∃ w, w < 6 ∧ x = nI w) → ((∃ T, zi_I f e T s) ∧ s.2 0 = st.2 0) → zp_ok (zX8_sendSupplies_11 m x (nI k) s) (fun x => (∃ T, zi_I f e T x) ∧ x.2 0 = st.2 0) := by
    intro d
    induction d with
    | zero =>
      intro m k x s hk hm hx hs
      obtain ⟨m, rfl⟩ : ∃ j, m = j + 1 := ⟨m - 1, by omega⟩
      obtain rfl : k = 6 := by omega
      rw [zX8_sendSupplies_11, if_pos (by decide)]
      exact .ret hs
    | succ d ih =>
      intro m k x s hk hm hx hs
      obtain ⟨m, rfl⟩ : ∃ j, m = j + 1 := ⟨m - 1, by omega⟩
      rw [zX8_sendSupplies_11, if_neg (show ¬ (6 : Int32) ≤ nI k from nI_ge (a := k) (b := 6) (by omega) (by decide))]
      refine zp_ite (fun _ => .ret hs) (fun hx1 => ?_)
      obtain ⟨w, hw, rfl⟩ := hx.resolve_left hx1
      simp only [zz_v]
      rw [show zX2_slotOfSupply (nI w) s = nI (48 + w) from nI_add 48 w, nI_1]
      refine zp_ite (fun hgo => ?_) (fun _ => (zs_next _ s).bind (fun y hy => ih m (k + 1) y s (by omega) (by omega) hy hs))
      obtain ⟨⟨T, hT⟩, h0⟩ := hs
      obtain ⟨a1, a2⟩ := zs_supply (v2 := zX4_get (nI w) 1 s) hw hgo hT
      exact (zs_next _ _).bind (fun y hy => ih m (k + 1) y _ (by omega) (by omega) hy ⟨⟨T + 1, a1⟩, a2.trans h0⟩)
  exact loop 6 zz_N 0 x st (by omega) (by show _ < 1000; omega) hx ⟨H, rfl⟩
