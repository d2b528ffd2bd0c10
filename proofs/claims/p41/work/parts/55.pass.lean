/-! PURE: what a TRAIN leaves behind; a TICK; TICKS -/
theorem zf_eng {f : Nat → Int32} {e T i : Nat} {s : zz_T} (hi : i < T) (H : zi_I f e T s) (h23 : zi_E23 T s) : zi_I f e T (zX8_returnEngine (nI i) s) ∧ zp_F [0, 16] [] s (zX8_returnEngine (nI i) s) := by
  have h60 := H.1.2.2.2.2.1
  have i60 : i < 60 := by omega
  obtain ⟨h, hh, eh⟩ := (H.2.2.2.2.2.2.2.1.1 i hi).2.2.2.2.1
  obtain ⟨m, m1, m2⟩ := h23
  have er : zX8_returnEngine (nI i) s = if zX1_timeOf (zX6_get (nI i) 9 s) (nI h) s ≤ 0 then zz_add 0 (nI h) 2 1 s else zz_set 16 (nI i) 15 (s.2 0 + 2 * zX1_timeOf (zX6_get (nI i) 9 s) (nI h) s) s := by rw [← eh]; rfl
  rw [er]
  refine zp_if (fun x => zi_I f e T x ∧ zp_F [0, 16] [] s x) (fun _ => ?_) (fun _ => ?_)
  · have hF : zp_F [0, 16] [] s (zz_add 0 (nI h) 2 1 s) := zp_F.rfl.add (by decide)
    have hq : zq zqE [] s (zz_add 0 (nI h) 2 1 s) := zq_rf.add (by decide) (show h < 10 by omega) (by decide) (by decide)
    refine ⟨zi_I_E hq (zp_all.F hF (by decide) H.2.1.2.2) ⟨fun x => if x = h then m h + 1 else m x, fun x hx => ?_, ?_⟩ H, hF⟩
    · rw [za0 (by omega) (by omega) (by decide) (by decide)]
      by_cases q : x = h
      · rw [if_pos ⟨q, rfl⟩]
        show _ = nI (if x = h then m h + 1 else m x)
        rw [if_pos q, m1 h hh, nI_1]
      · rw [if_neg (fun r => q r.1)]
        show _ = nI (if x = h then m h + 1 else m x)
        rw [if_neg q]
        exact m1 x hx
    · have i1 := zp_s_inc (m := m) (m' := fun x => if x = h then m h + 1 else m x) hh (fun x hx => if_neg hx)
      rw [if_pos rfl] at i1
      have i2 : zp_s (ze_h (zz_add 0 (nI h) 2 1 s)) 0 T = zp_s (ze_h s) 0 T := ze_sums (fun i hi => zp_gan (by decide))
      have i3 : zp_s (ze_b (zz_add 0 (nI h) 2 1 s)) 0 T = zp_s (ze_b s) 0 T := zp_s_congr T 0 (fun i _ hi => by unfold ze_b; rw [zp_gan (by decide)])
      show zp_s (fun x => if x = h then m h + 1 else m x) 0 6 + zp_s (ze_h (zz_add 0 (nI h) 2 1 s)) 0 T + zp_s (ze_b (zz_add 0 (nI h) 2 1 s)) 0 T ≤ 24
      omega
  · obtain ⟨v, ev⟩ : ∃ v, v = s.2 0 + 2 * zX1_timeOf (zX6_get (nI i) 9 s) (nI h) s := ⟨_, rfl⟩
    rw [← ev]
    have hF : zp_F [0, 16] [] s (zz_set 16 (nI i) 15 v s) := zp_F.rfl.set (by decide)
    have hq : zq zqE [] s (zz_set 16 (nI i) 15 v s) := zq_rf.set (by decide) (show i < 60 from i60) (by decide) (by decide)
    refine ⟨zi_I_E hq (zp_all.F hF (by decide) H.2.1.2.2) ⟨m, fun x hx => ?_, ?_⟩ H, hF⟩
    · rw [zp_gn (by decide)]; exact m1 x hx
    · have i2 : zp_s (ze_h (zz_set 16 (nI i) 15 v s)) 0 T = zp_s (ze_h s) 0 T := ze_sums (fun j hj => hq.g 16 (by decide) (show j < 60 by omega) (by decide) (by decide))
      have i3 := zp_s_upd (f := ze_b s) (g := ze_b (zz_set 16 (nI i) 15 v s)) (j := i) T 0 (Nat.zero_le _) (by omega) (fun j hne _ hj => by unfold ze_b; rw [zg16 i60 (show j < 60 by omega) (by decide) (by decide), if_neg (fun r => hne r.1)])
      have i4 : ze_b (zz_set 16 (nI i) 15 v s) i ≤ 1 := zp_ble
      show zp_s m 0 6 + zp_s (ze_h (zz_set 16 (nI i) 15 v s)) 0 T + zp_s (ze_b (zz_set 16 (nI i) 15 v s)) 0 T ≤ 24
      omega
theorem zi_E23_F {T : Nat} {ts ks : List Nat} {a b : zz_T} (h : zp_F ts ks a b) (h0 : 0 ∉ ts) (h16 : 16 ∉ ts) (H : zi_E23 T a) : zi_E23 T b := by
  obtain ⟨m, m1, m2⟩ := H
  refine ⟨m, fun s hs => by rw [h.g h0]; exact m1 s hs, ?_⟩
  have c1 : ze_h b = ze_h a := by funext i; unfold ze_h zi_how; rw [h.g h16]
  have c2 : ze_b b = ze_b a := by funext i; unfold ze_b; rw [h.g h16]
  rw [c1, c2]
  exact m2
theorem zf_home {f : Nat → Int32} {e T k : Nat} {s : zz_T} (hk : k < 3) (hs : zi_I f e T s) : zi_I f e T (zX3_takeHome (nI k) s) ∧ zp_F [19] [] s (zX3_takeHome (nI k) s) := by
  have : ∀ w : Int32, zi_I f e T (zz_add 19 (nI k) 10 w (zz_add 19 (nI k) 9 (-w) s)) ∧ zp_F [19] [] s (zz_add 19 (nI k) 10 w (zz_add 19 (nI k) 9 (-w) s)) := fun w => ⟨zt_set19 hk _ _ (by decide) (zt_set19 hk _ _ (by decide) hs), (zp_F.rfl.add (by decide)).add (by decide)⟩
  exact this _
theorem zf_homeF (v : Int32) (s : zz_T) : zp_F [19] [] s (zX3_takeHome v s) := by
  have : ∀ w : Int32, zp_F [19] [] s (zz_add 19 v 10 w (zz_add 19 v 9 (-w) s)) := fun w => (zp_F.rfl.add (by decide)).add (by decide)
  exact this _
theorem zf_march {f : Nat → Int32} {e T u l g : Nat} {v : Int32} {s : zz_T} (hu : u < 6) (hl : l < 8) (hg : zz_g 4 (nI u) 7 s = nI g) (hg8 : g ≤ 8) (hlg : l < g) (h0 : zz_g 5 (nI (8 * u + l)) 0 s = 0) (hne : ∀ j, j < T → zi_how j s ≠ 3 → ∀ u' l', u' < 6 → l' < 8 → zz_g 16 (nI j) 0 s = nI u' → zz_g 16 (nI j) 14 s = nI (8 * u' + l') → 8 * u' + l' ≠ 8 * u + l) (H : zi_I f e T s) : zi_I f e T (zX7_march (nI u) (nI (8 * u + l)) v s) ∧ zp_F [4, 5] [] s (zX7_march (nI u) (nI (8 * u + l)) v s) := by
  have h60 := H.1.2.2.2.2.1
  obtain ⟨b, eb⟩ : ∃ b, b = zX7_march (nI u) (nI (8 * u + l)) v s := ⟨_, rfl⟩
  have db : b = zz_add 4 (nI u) 8 1 (zz_set 5 (nI (8 * u + l)) 2 v (zz_set 5 (nI (8 * u + l)) 0 1 s)) := eb
  rw [← eb]
  have hF : zp_F [4, 5] [] s b := by rw [db]; exact ((zp_F.rfl.set (by decide)).set (by decide)).add (by decide)
  have r5 : 8 * u + l < zp_R 5 := show 8 * u + l < 48 by omega
  have hq : zq zqS [] s b := by rw [db]; exact ((zq_rf.set (by decide) r5 (by decide) (by decide)).set (by decide) r5 (by decide) (by decide)).add (by decide) (show u < zp_R 4 from hu) (by decide) (by decide)
  have g4 : ∀ x, x < 6 → ∀ c : Int32, 0 ≤ c ∧ c < 13 → zz_g 4 (nI x) c b = if x = u ∧ c = 8 then zz_g 4 (nI u) 8 s + 1 else zz_g 4 (nI x) c s := fun x hx c hc => by
    rw [db, za4 hu hx (by decide) hc, zp_gn (by decide), zp_gn (by decide), zp_gn (by decide), zp_gn (by decide)]
  have g5 : ∀ x, x < 48 → ∀ c : Int32, 0 ≤ c ∧ c < 3 → c ≠ 2 → zz_g 5 (nI x) c b = if x = 8 * u + l ∧ c = 0 then 1 else zz_g 5 (nI x) c s := fun x hx c hc h2 => by
    rw [db, zp_gan (by decide), zg5 (by omega) hx (by decide) hc, if_neg (fun q => h2 q.2), zg5 (by omega) hx (by decide) hc]
  refine ⟨zi_I_S hq (zp_all.F hF (by decide) H.2.1.2.2) (zi_S_ext u (fun x hx hne c hc => ?_) (fun x k hx hne hk c hc => ?_) (fun _ => ?_) H.2.2.2.2.1) ?_ H, hF⟩
  · have hc13 : 0 ≤ c ∧ c < 13 := by rcases hc with rfl | rfl | rfl | rfl | rfl <;> decide
    rw [g4 x hx c hc13, if_neg (fun q => hne q.1)]
  · have hc3 : 0 ≤ c ∧ c < 3 := by rcases hc with rfl | rfl <;> decide
    have hc2 : c ≠ 2 := by rcases hc with rfl | rfl <;> decide
    rw [g5 _ (by omega) c hc3 hc2, if_neg (fun q => by omega)]
  · obtain ⟨L, g', r, s1, s2, s3, s4, s5, s6, s7, s8, s9, s10⟩ := H.2.2.2.2.1 u hu
    have eg : g' = g := (nI_eq (by omega) (by omega)).mp (s4.symm.trans hg)
    subst eg
    have e0 : ∀ j, j < 8 → zz_g 5 (nI (8 * u + j)) 0 b = if j = l then 1 else zz_g 5 (nI (8 * u + j)) 0 s := fun j hj => by
      rw [g5 _ (by omega) 0 (by decide) (by decide)]
      by_cases q : j = l
      · rw [if_pos ⟨by rw [q], rfl⟩, if_pos q]
      · rw [if_neg (fun r => q (by omega)), if_neg q]
    have c0 := zp_s_upd (f := zi_c0 u s) (g := zi_c0 u b) (j := l) L 0 (Nat.zero_le _) (by omega) (fun j hne _ hj => by
      unfold zi_c0
      rw [e0 j (by omega), if_neg hne])
    have c0a : zi_c0 u s l = 0 := zp_b0 (by rw [h0]; decide)
    have c0b : zi_c0 u b l = 1 := zp_b1 (by rw [e0 l hl, if_pos rfl]; decide)
    have c2 : zp_s (zi_c2 u b) 0 L = zp_s (zi_c2 u s) 0 L := zp_s_congr L 0 (fun j _ hj => by
      unfold zi_c2
      rw [e0 j (by omega)]
      by_cases q : j = l
      · rw [if_pos q, q, h0, zp_b0 (by decide), zp_b0 (by decide)]
      · rw [if_neg q])
    refine ⟨L, g', r, ?_, s2, s3, ?_, ?_, s6, s7, ?_, ?_, fun j hj => ?_⟩
    · rw [g4 u hu 1 (by decide), if_neg (fun q => absurd q.2 (by decide))]; exact s1
    · rw [g4 u hu 7 (by decide), if_neg (fun q => absurd q.2 (by decide))]; exact s4
    · rw [g4 u hu 6 (by decide), if_neg (fun q => absurd q.2 (by decide))]; exact s5
    · rw [g4 u hu 8 (by decide), if_pos ⟨rfl, rfl⟩, s8, nI_1]
      rw [c0a, c0b] at c0
      rw [← c0]
      rfl
    · rw [g4 u hu 9 (by decide), if_neg (fun q => absurd q.2 (by decide)), c2]; exact s9
    · obtain ⟨p1, p2, p3⟩ := s10 j hj
      have e1 : zz_g 5 (nI (8 * u + j)) 1 b = zz_g 5 (nI (8 * u + j)) 1 s := by rw [g5 _ (by omega) 1 (by decide) (by decide), if_neg (fun q => absurd q.2 (by decide))]
      rw [e0 j hj, e1]
      by_cases q : j = l
      · rw [if_pos q]
        exact ⟨⟨1, by decide, rfl⟩, fun hg => by omega, p3⟩
      · rw [if_neg q]; exact ⟨p1, p2, p3⟩
  · refine zi_D_mono (fun i hi hh => ?_) (fun i hi hh hd => ?_) H.2.2.2.2.2.2.2.2.2.2
    · unfold zi_how at hh ⊢
      rw [hF.g (by decide)] at hh
      exact ⟨hh, hF.g (by decide) _ _, hF.g (by decide) _ _⟩
    · have hh' : zi_how i s ≠ 3 := by
        unfold zi_how at hh ⊢
        rw [hF.g (by decide)] at hh
        exact hh
      refine zi_D1_mono (hF.g (by decide) _ _) (hF.g (by decide) _ _) (fun u' l' g' hu' hl' q1 q2 q3 q4 q5 q6 => ⟨⟨g', ?_, q4, q5⟩, ?_⟩) hd
      · rw [g4 u' hu' 7 (by decide), if_neg (fun q => absurd q.2 (by decide))]; exact q3
      · rw [g5 _ (by omega) 0 (by decide) (by decide), if_neg (fun r => hne i hi hh' u' l' hu' hl' q1 q2 r.1)]; exact q6
theorem zf_free {f : Nat → Int32} {e T w : Nat} {k : Nat} {s : zz_T} (hw : w < 6) (hk : k < 3) (H : zi_I f e T s) : zi_I f e T (zX4_free (nI w) (zX3_store (nI k) 24 (zX3_takeHome (nI k) (zX2_takeOut 6 (nI (48 + w)) s).2))) ∧ zp_F [6, 18, 19] [] s (zX4_free (nI w) (zX3_store (nI k) 24 (zX3_takeHome (nI k) (zX2_takeOut 6 (nI (48 + w)) s).2))) := by
  have ho := zd_takeOut (b := 6) (Or.inl rfl) (a := 48 + w) (by omega) s
  obtain ⟨s1, e1⟩ : ∃ s1, s1 = (zX2_takeOut 6 (nI (48 + w)) s).2 := ⟨_, rfl⟩
  rw [← e1] at ho ⊢
  have F2 := zf_homeF (nI k) s1
  obtain ⟨s2, e2⟩ : ∃ s2, s2 = zX3_takeHome (nI k) s1 := ⟨_, rfl⟩
  rw [← e2] at F2 ⊢
  obtain ⟨s3, e3⟩ : ∃ s3, s3 = zX3_store (nI k) 24 s2 := ⟨_, rfl⟩
  have F3 : zp_F [19] [] s2 s3 := by rw [e3]; exact zp_F.rfl.set (by decide)
  rw [← e3]
  have dc : zX4_free (nI w) s3 = zz_set 18 (nI w) 0 0 s3 := rfl
  rw [dc]
  obtain ⟨c, ec⟩ : ∃ c, c = zz_set 18 (nI w) 0 0 s3 := ⟨_, rfl⟩
  rw [← ec]
  have F4 : zp_F [18] [] s3 c := by rw [ec]; exact zp_F.rfl.set (by decide)
  have F14 : zp_F [18, 19] [] s1 c := (F2.mono (by decide) (by decide)).trans ((F3.mono (by decide) (by decide)).trans (F4.mono (by decide) (by decide)))
  have F0 : zp_F [6, 18, 19] [] s c := (ho.1.mono (by decide) (by decide)).trans (F14.mono (by decide) (by decide))
  have q19 : ∀ r, r < 3 → ∀ x : Int32, 0 ≤ x ∧ x < 13 → x ∉ [1, 2, 3, 4, 5, 6, 7, 8, 9, 10, 11, 12] → zz_g 19 (nI r) x c = zz_g 19 (nI r) x s := by
    intro r hr x hx hn
    have h2 : ∀ w' : Int32, zz_g 19 (nI r) x (zz_add 19 (nI k) 10 w' (zz_add 19 (nI k) 9 (-w') s1)) = zz_g 19 (nI r) x s1 := fun w' => by
      rw [za19 hk hr (by decide) hx, if_neg (fun q => hn (by rw [q.2]; decide)), za19 hk hr (by decide) hx, if_neg (fun q => hn (by rw [q.2]; decide))]
    have h3 : zz_g 19 (nI r) x s3 = zz_g 19 (nI r) x s2 := by
      rw [e3]
      show zz_g 19 (nI r) x (zz_set 19 (nI k) 7 _ s2) = _
      rw [zg19 hk hr (by decide) hx, if_neg (fun q => hn (by rw [q.2]; decide))]
    rw [F4.g (by decide), h3, e2, show zz_g 19 (nI r) x (zX3_takeHome (nI k) s1) = zz_g 19 (nI r) x s1 from h2 _, ho.1.g (by decide)]
  have hq : zq zqB [6] s c := by
    refine ⟨fun t ht r hr x hx hn => ?_, fun j _ => F0.2 j (by simp)⟩
    by_cases q6 : t = 6
    · subst q6; exact absurd (zqw_all ht hx) hn
    · by_cases q18 : t = 18
      · subst q18; exact absurd (zqw_all ht hx) hn
      · by_cases t19 : t = 19
        · subst t19; exact q19 r hr x hx hn
        · exact F0.g (by simp; omega) _ _
  have kp : ∀ y, y < 54 → zi_kept 6 y c → zi_kept 6 y s ∧ y ≠ 48 + w := fun y hy hky => by
    unfold zi_kept at hky ⊢
    rw [F14.g (by decide)] at hky
    have hn : y ≠ 48 + w := fun q => hky (ho.2.2 y hy q)
    rw [ho.2.1 y hy 0 (by decide) (Or.inr hn)] at hky
    exact ⟨hky, hn⟩
  have kp' : ∀ y, y < 54 → zi_kept 6 y s → y ≠ 48 + w → zi_kept 6 y c := fun y hy hky hn => by
    unfold zi_kept at hky ⊢
    rw [F14.g (by decide), ho.2.1 y hy 0 (by decide) (Or.inr hn)]
    exact hky
  refine ⟨zi_I_B hq (zp_all.F F0 (by decide) H.2.1.2.2) ?_ ⟨fun u l hu hl hky => ?_, fun x hx => ?_⟩ ?_ H, F0⟩
  · have hN := H.1
    unfold zi_N at hN ⊢
    rw [F0.s (by decide), F0.s (by decide), F0.s (by decide), F0.s (by decide), F0.s (by decide), F0.s (by decide), F0.s (by decide)]
    exact hN
  · rw [F0.g (by decide)]
    exact H.2.2.2.2.2.1.1 u l hu hl (kp _ (by omega) hky).1
  · obtain ⟨p1, p2⟩ := H.2.2.2.2.2.1.2 x hx
    have c18 : zz_g 18 (nI x) 0 c = if x = w then 0 else zz_g 18 (nI x) 0 s := by
      rw [ec, zg18 hw hx (by decide) (by decide)]
      by_cases q : x = w
      · rw [if_pos ⟨q, rfl⟩, if_pos q]
      · rw [if_neg (fun r => q r.1), if_neg q, F3.g (by decide), F2.g (by decide), ho.1.g (by decide)]
    rw [c18]
    by_cases q : x = w
    · rw [if_pos q]
      exact ⟨⟨0, by omega, rfl⟩, fun z => absurd (by rw [q]) (kp _ (by omega) z).2, fun z => absurd rfl z⟩
    · rw [if_neg q]
      exact ⟨p1, fun z => p2.mp (kp _ (by omega) z).1, fun z => kp' _ (by omega) (p2.mpr z) (by omega)⟩
  · exact zi_P_book (b := 6) (b' := 6) (fun r x => F14.g (by decide) r x) (fun r x => F14.g (by decide) r x) (fun r x => F14.g (by decide) r x) (fun r x => F14.g (by decide) r x) (fun r x => F14.g (by decide) r x) (fun r x => F14.g (by decide) r x) (zd_P (Or.inl rfl) ho H.2.2.2.2.2.2.1)
theorem zf_fin {f : Nat → Int32} {e T i : Nat} {s : zz_T} (hi : i < T) (H : zi_I f e T s) (hD : zm_D T i s) : zi_I f e T (zX8_finish (nI i) s) ∧ zp_F [0, 4, 5, 6, 16, 18, 19] [] s (zX8_finish (nI i) s) := by
  obtain ⟨h3, hD1, hne, h23⟩ := hD
  obtain ⟨k, hk, ek⟩ := (H.2.2.2.2.2.2.2.1.1 i hi).2.2.2.2.2
  rcases hD1 with ⟨p1, w, hw, p2⟩ | ⟨u, l, g, hu, hl, q1, q2, q3, q4, q5, q6⟩
  · have ef : zX8_finish (nI i) s = if zz_g 16 (nI i) 0 s = -1 then zX8_returnEngine (nI i) (zX4_free (nI (48 + w) - 48) (zX3_store (nI k) 24 (zX3_takeHome (nI k) (zX2_takeOut 6 (nI (48 + w)) s).2))) else zX8_returnEngine (nI i) (zX7_march (zz_g 16 (nI i) 0 s) (nI (48 + w)) (zX3_takeRoad (nI k) ((zX3_takeHome (nI k) (zX2_takeOut 6 (nI (48 + w)) s).2).2 0) (zX3_takeHome (nI k) (zX2_takeOut 6 (nI (48 + w)) s).2)).1 (zX3_takeRoad (nI k) ((zX3_takeHome (nI k) (zX2_takeOut 6 (nI (48 + w)) s).2).2 0) (zX3_takeHome (nI k) (zX2_takeOut 6 (nI (48 + w)) s).2)).2) := by rw [← ek, ← p2]; rfl
    rw [ef, if_pos p1, show nI (48 + w) - 48 = nI w from by rw [show nI (48 + w) = nI w + 48 from by rw [Nat.add_comm]; exact (nI_add w 48).symm, Int32.add_sub_cancel]]
    obtain ⟨a1, a2⟩ := zf_free hw hk H
    obtain ⟨b1, b2⟩ := zf_eng hi a1 (zi_E23_F a2 (by decide) (by decide) h23)
    exact ⟨b1, (a2.mono (by decide) (by decide)).trans (b2.mono (by decide) (by decide))⟩
  · have ef : zX8_finish (nI i) s = if nI u = -1 then zX8_returnEngine (nI i) (zX4_free (nI (8 * u + l) - 48) (zX3_store (nI k) 24 (zX3_takeHome (nI k) (zX2_takeOut 6 (nI (8 * u + l)) s).2))) else zX8_returnEngine (nI i) (zX7_march (nI u) (nI (8 * u + l)) (zX3_takeRoad (nI k) ((zX3_takeHome (nI k) (zX2_takeOut 6 (nI (8 * u + l)) s).2).2 0) (zX3_takeHome (nI k) (zX2_takeOut 6 (nI (8 * u + l)) s).2)).1 (zX3_takeRoad (nI k) ((zX3_takeHome (nI k) (zX2_takeOut 6 (nI (8 * u + l)) s).2).2 0) (zX3_takeHome (nI k) (zX2_takeOut 6 (nI (8 * u + l)) s).2)).2) := by rw [← ek, ← q2, ← q1]; rfl
    have nu : ∀ v, v < 6 → nI v ≠ -1 := fun v hv q => absurd (q ▸ (by decide : (-1 : Int32) < 0)) (nI_pos (by omega))
    rw [ef, if_neg (nu u hu)]
    have ho := zd_takeOut (b := 6) (Or.inl rfl) (a := 8 * u + l) (by omega) s
    obtain ⟨s1, e1⟩ : ∃ s1, s1 = (zX2_takeOut 6 (nI (8 * u + l)) s).2 := ⟨_, rfl⟩
    rw [← e1] at ho ⊢
    have H1 : zi_I f e T s1 := zi_I_out ho (fun w hw => by
      obtain ⟨r1, r2⟩ := H.2.2.2.2.2.1.2 w hw
      refine ⟨r1, Iff.trans ?_ r2⟩
      unfold zi_kept
      rw [ho.2.1 (48 + w) (by omega) 0 (by decide) (Or.inr (by omega))]) H
    obtain ⟨H2, F2⟩ := zf_home hk H1
    obtain ⟨s2, e2⟩ : ∃ s2, s2 = zX3_takeHome (nI k) s1 := ⟨_, rfl⟩
    rw [← e2] at H2 F2 ⊢
    obtain ⟨s3, e3⟩ : ∃ s3, s3 = (zX3_takeRoad (nI k) (s2.2 0) s2).2 := ⟨_, rfl⟩
    rw [← e3]
    have H3 : zi_I f e T s3 := by rw [e3]; exact zt_set19 hk _ _ (by decide) H2
    have F3 : zp_F [19] [] s2 s3 := by rw [e3]; exact zp_F.rfl.set (by decide)
    have F03 : zp_F [6, 19] [] s s3 := (ho.1.mono (by decide) (by decide)).trans ((F2.mono (by decide) (by decide)).trans (F3.mono (by decide) (by decide)))
    obtain ⟨H4, F4⟩ := zf_march (v := (zX3_takeRoad (nI k) (s2.2 0) s2).1) hu hl ((F03.g (by decide) _ _).trans q3) q4 q5 ((F03.g (by decide) _ _).trans q6) (fun j hj hh u' l' hu' hl' r1 r2 => by
      unfold zi_how at hh
      rw [F03.g (by decide)] at hh r1 r2
      have := hne j hj hh (by rw [r1]; exact nu u' hu') (by rw [q1]; exact nu u hu)
      rw [r2, q2] at this
      exact fun w => this (by rw [w])) H3
    have F04 : zp_F [4, 5, 6, 19] [] s (zX7_march (nI u) (nI (8 * u + l)) (zX3_takeRoad (nI k) (s2.2 0) s2).1 s3) := (F03.mono (by decide) (by decide)).trans (F4.mono (by decide) (by decide))
    obtain ⟨b1, b2⟩ := zf_eng hi H4 (zi_E23_F F04 (by decide) (by decide) h23)
    exact ⟨b1, (F04.mono (by decide) (by decide)).trans (b2.mono (by decide) (by decide))⟩
/-- all MOVES of a TICK -/
theorem zf_moves {f : Nat → Int32} {e T c : Nat} {st : zz_T} (hc : c ≤ 60) (H : zi_I f e T st) (hp : ∀ j, j < c → zp_bl T (zz_g 17 (nI j) 0 st)) : zp_ok (zX8_nextTick_111 zz_N (nI c) 0 st) (fun x => zi_I f e T x ∧ x.2 0 = st.2 0) := by
  refine zp_loop0 (F := fun n v (s : zz_T) => zX8_nextTick_111 n (nI c) v s) (N := c) (by omega) (fun _ s => (zi_I f e T s ∧ s.2 0 = st.2 0) ∧ ∀ j, zz_g 17 (nI j) 0 s = zz_g 17 (nI j) 0 st) (fun n s hs => ?_) (fun n k s hk hs ih => ?_) ⟨⟨H, rfl⟩, fun _ => rfl⟩
  · rw [zX8_nextTick_111, if_pos (Int32.le_refl _)]; exact .ret hs.1
  · obtain ⟨⟨h1, h2⟩, h3⟩ := hs
    rw [zX8_nextTick_111, if_neg (nI_ge hk (by omega))]
    simp only [zz_v]
    obtain ⟨i, hi, ei⟩ := hp k hk
    rw [show zX6_inPlace (nI k) s = nI i from (h3 k).trans ei]
    refine (zm_move hi h1).bind (fun w hw => ?_)
    obtain ⟨⟨a1, a2⟩, a3⟩ := hw
    refine zp_ite (fun hd => ?_) (fun _ => ih _ ⟨⟨a1, (a2.s (by decide)).trans h2⟩, fun j => (a2.g (by decide) _ _).trans (h3 j)⟩)
    obtain ⟨b1, b2⟩ := zf_fin hi a1 (a3 hd)
    exact ih _ ⟨⟨b1, ((b2.s (by decide)).trans (a2.s (by decide))).trans h2⟩, fun j => ((b2.g (by decide) _ _).trans (a2.g (by decide) _ _)).trans (h3 j)⟩
theorem zf_64 {f : Nat → Int32} {e : Nat} {st : zz_T} (H : ∃ T, zi_I f e T st) : zp_ok (zX8_nextTick_64 zz_N 0 st) (fun x => (∃ T, zi_I f e T x) ∧ x.2 0 = st.2 0) := by
  refine zp_loop0 (F := fun n v (s : zz_T) => zX8_nextTick_64 n v s) (N := 6) (by decide) (fun _ s => (∃ T, zi_I f e T s) ∧ s.2 0 = st.2 0) (fun n s hs => ?_) (fun n k s hk hs ih => ?_) ⟨H, rfl⟩
  · obtain ⟨⟨T, hT⟩, h0⟩ := hs
    rw [zX8_nextTick_64, show zX1_countStations s = nI 6 from hT.1.1, if_pos (Int32.le_refl _)]
    refine (zs_loads ⟨T, hT⟩).bind (fun x hx => (zs_supplies hx.1).bind (fun y hy => ?_))
    obtain ⟨⟨T', hT'⟩, hy0⟩ := hy
    refine (zm_lineUp hT' _).bind (fun z hz => ?_)
    obtain ⟨c, c1, c2, c3, c4, c5⟩ := hz
    rw [c2]
    exact (zf_moves (by have := c3.1.2.2.2.2.1; omega) c3 c5).mono (fun w hw => ⟨⟨T', hw.1⟩, hw.2.trans (c4.trans (hy0.trans (hx.2.trans h0)))⟩)
  · obtain ⟨⟨T, hT⟩, h0⟩ := hs
    rw [zX8_nextTick_64, show zX1_countStations s = nI 6 from hT.1.1, if_neg (nI_ge hk (by decide))]
    exact (zt_work hT _).bind (fun x hx => ih _ ⟨⟨T, hx.1⟩, hx.2.trans h0⟩)
theorem zf_next {f : Nat → Int32} {e t : Nat} {st : zz_T} (H : ∃ T, zi_I f e T st) (et : st.2 0 = nI t) (ht : t + 1 ≤ 2880) : zp_ok (zX8_nextTick st) (fun x => (∃ T, zi_I f e T x) ∧ x.2 0 = nI (t + 1)) := by
  obtain ⟨T, hT⟩ := H
  unfold zX8_nextTick
  simp only [zz_v]
  rw [et, nI_1]
  have h0 := zt_tick et ht hT
  refine (zt_foul h0).bind (fun a ha => (zt_orders ha.1 _).bind (fun b hb => (zt_stops hb.1).bind (fun c hc => (zt_engines hc.1).bind (fun d hd => (zt_come hd.1 _).bind (fun g hg => ?_)))))
  have eg : g.2 0 = nI (t + 1) := by rw [hg.2, hd.2, hc.2, hb.2, ha.2, zp_SS, if_pos rfl]
  refine zp_ite (fun _ => (zt_day hg.1).bind (fun h hh => (zf_64 ⟨T, hh.1⟩).mono (fun x hx => ⟨hx.1, hx.2.trans (hh.2.trans eg)⟩))) (fun _ => (zf_64 ⟨T, hg.1⟩).mono (fun x hx => ⟨hx.1, hx.2.trans eg⟩))
theorem za_pass {f : Nat → Int32} {e : Nat} {st : zz_T} (H : ∃ T, zi_I f e T st) (v : Int32) : zp_ok (zX8_passx v st) (fun x => ∃ T, zi_I f e T x.2) := by
  obtain ⟨T, hT⟩ := id H
  obtain ⟨t, ht, et⟩ := hT.1.2.2.2.2.2.1
  unfold zX8_passx
  refine zp_ite (fun _ => .ret H) (fun h1 => zp_ite (fun h2 => zp_ite (fun h3 => ?_) (fun _ => .ret H)) (fun _ => .ret H))
  obtain ⟨d, hd, rfl⟩ := nI_of2 (M := 144) (n := 144) (by decide) (fun q => h1 (Int32.lt_of_lt_of_le q (by decide))) h2
  rw [et, nI_add] at h3
  have htd : t + d ≤ 2880 := (nI_leI (b := 2880) (by omega) (by decide)).mp h3
  refine zp_loop0 (F := fun n x (s : zz_T) => zX8_passx_48 n (nI d) x s) (N := d) (by omega) (fun k s => (∃ T, zi_I f e T s) ∧ s.2 0 = nI (t + k)) (fun n s hs => ?_) (fun n k s hk hs ih => ?_) ⟨H, et⟩
  · rw [zX8_passx_48, if_pos (Int32.le_refl _)]; exact .ret hs.1
  · rw [zX8_passx_48, if_neg (nI_ge hk (by omega))]
    exact (zf_next hs.1 hs.2 (by omega)).bind (fun x hx => ih _ hx)
