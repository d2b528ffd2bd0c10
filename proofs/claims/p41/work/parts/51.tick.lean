/-! PURE: what comes with a TICK, up to the DEPOTS -/
theorem zp_if {α : Type} {c : Prop} [Decidable c] {a b : α} (P : α → Prop) (h1 : c → P a) (h2 : ¬ c → P b) : P (if c then a else b) := by
  by_cases h : c
  · rw [if_pos h]; exact h1 h
  · rw [if_neg h]; exact h2 h
theorem zi_I_N {f : Nat → Int32} {e e' T : Nat} {a b : zz_T} (h : zq zq0 [0] a b) (h3 : zp_all 3 (zp_li 8) b) (hN : zi_N e T b) (H : zi_I f e T a) : zi_I f e T b := by
  obtain ⟨hN0, hL, hU, hX, hS, hK, hP, hT, hG, hE, hD⟩ := H
  have h60 := hN0.2.2.2.2.1
  exact ⟨hN, zq_L h (by decide) (by decide) h3 hL, zq_U h (by decide) rfl hU, zq_X h (by decide) (by decide) hX, zq_S h (by decide) (by decide) hS, zq_K h (by decide) (by decide) (by decide) hK, zq_P h (by decide) rfl rfl rfl rfl (by decide) hP, zq_T h60 h (by decide) (by decide) hT, zq_G h60 h (by decide) hG, zq_E h60 h (by decide) (by decide) hE, zq_D h60 h (by decide) (by decide) (by decide) hD⟩
theorem zt_tick {f : Nat → Int32} {e T t : Nat} {st : zz_T} (et : st.2 0 = nI t) (ht : t + 1 ≤ 2880) (H : zi_I f e T st) : zi_I f e T (zz_S 0 (nI (t + 1)) st) := by
  refine zi_I_N (e' := e) (zq_rf.S (by decide)) H.2.1.2.2 ?_ H
  obtain ⟨n1, n2, n3, n4, n5, n6, n7, n8⟩ := H.1
  exact ⟨n1, n2, n3, n4, n5, ⟨t + 1, ht, rfl⟩, n7, n8⟩
theorem zt_foul {f : Nat → Int32} {e T : Nat} {st : zz_T} (H : zi_I f e T st) : zp_ok (zX1_clearFoul st) (fun x => zi_I f e T x ∧ x.2 0 = st.2 0) := by
  unfold zX1_clearFoul
  refine zp_loop0 (F := fun n v (s : zz_T) => zX1_clearFoul_2 n v s) (N := 6) (by decide) (fun _ s => zi_I f e T s ∧ s.2 0 = st.2 0) (fun n s hs => ?_) (fun n k s hk hs ih => ?_) ⟨H, rfl⟩
  · rw [zX1_clearFoul_2, hs.1.1.1, if_pos (Int32.le_refl _)]; exact .ret hs
  · rw [zX1_clearFoul_2, hs.1.1.1, if_neg (nI_ge hk (by decide))]
    refine zp_ite (fun _ => ih _ hs) (fun _ => ?_)
    simp only [zz_v]
    exact ih _ ⟨zi_I_set (t := 0) (by decide) (show k < 10 by omega) (by decide) (by decide) hs.1, by rw [zp_a2]; exact hs.2⟩
theorem zt_orders {f : Nat → Int32} {e T : Nat} {st : zz_T} (H : zi_I f e T st) (v : Int32) : zp_ok (zX7_takeOrders v st) (fun x => zi_I f e T x ∧ x.2 0 = st.2 0) := by
  unfold zX7_takeOrders
  refine zp_loop0 (F := fun n x (s : zz_T) => zX7_takeOrders_2 n v x s) (N := 6) (by decide) (fun _ s => zi_I f e T s ∧ s.2 0 = st.2 0) (fun n s hs => ?_) (fun n k s hk hs ih => ?_) ⟨H, rfl⟩
  · rw [zX7_takeOrders_2, hs.1.1.2.2.1, if_pos (Int32.le_refl _)]; exact .ret hs
  · rw [zX7_takeOrders_2, hs.1.1.2.2.1, if_neg (nI_ge hk (by decide))]
    refine zp_ite (fun _ => ?_) (fun _ => ih _ hs)
    simp only [zz_v]
    have hk' : k < zp_R 4 := hk
    have h1 := zi_I_set (t := 4) (c := 10) (v := -1) (by decide) hk' (by decide) (by decide) hs.1
    refine zp_ite (fun _ => ih _ ⟨zi_I_set (t := 4) (by decide) hk' (by decide) (by decide) (zi_I_set (t := 4) (by decide) hk' (by decide) (by decide) h1), ?_⟩) (fun _ => ih _ ⟨h1, ?_⟩)
    · rw [zp_s2, zp_s2, zp_s2]; exact hs.2
    · rw [zp_s2]; exact hs.2
theorem zi_I_out {f : Nat → Int32} {e T : Nat} {a b : zz_T} {S : Nat → Prop} (h : zd_out 6 S a b) (hK : ∀ w, w < 6 → (∃ s, s ≤ e ∧ zz_g 18 (nI w) 0 a = nI s) ∧ (zi_kept 6 (48 + w) b ↔ zz_g 18 (nI w) 0 a ≠ 0)) (H : zi_I f e T a) : zi_I f e T b := by
  have hq : zq zqB [6] a b := zq_rf.F h.1 (by intro t ht; rw [List.mem_singleton] at ht; rw [ht]; rfl) (by simp)
  refine zi_I_B hq (zp_all.F h.1 (by decide) H.2.1.2.2) ?_ ⟨fun u l hu hl hk => ?_, fun w hw => ?_⟩ (zd_P (Or.inl rfl) h H.2.2.2.2.2.2.1) H
  · have hN := H.1
    unfold zi_N at hN ⊢
    rw [h.1.s (by decide), h.1.s (by decide), h.1.s (by decide), h.1.s (by decide), h.1.s (by decide), h.1.s (by decide), h.1.s (by decide)]
    exact hN
  · rw [h.1.g (by decide)]
    refine H.2.2.2.2.2.1.1 u l hu hl ?_
    have hn : ¬ S (8 * u + l) := fun q => hk (h.2.2 _ (by omega) q)
    unfold zi_kept at hk ⊢
    rw [← h.2.1 _ (by omega) 0 (by decide) (Or.inr hn)]
    exact hk
  · rw [h.1.g (by decide)]
    exact hK w hw
theorem zt_stop {f : Nat → Int32} {e T k : Nat} {st : zz_T} (hk : k < 6) (H : zi_I f e T st) (v : Int32) : zi_I f e T (zX7_takeStop (nI k) v st).2 ∧ (zX7_takeStop (nI k) v st).2.2 0 = st.2 0 := by
  have hk' : k < zp_R 4 := hk
  have h1 := zi_I_set (t := 4) (c := 11) (v := -1) (by decide) hk' (by decide) (by decide) H
  have h2 : (zz_set 4 (nI k) 11 (-1) st).2 0 = st.2 0 := by rw [zp_s2]
  have go : ∀ b : Bool, zi_I f e T (zX7_takeStop_54 (nI k) b (zz_set 4 (nI k) 11 (-1) st)).2 ∧ (zX7_takeStop_54 (nI k) b (zz_set 4 (nI k) 11 (-1) st)).2.2 0 = st.2 0 := by
    intro b
    unfold zX7_takeStop_54
    simp only [zz_v]
    split
    · exact ⟨zi_I_set (t := 4) (by decide) hk' (by decide) (by decide) h1, by show (zz_set 4 (nI k) 4 3 (zz_set 4 (nI k) 11 (-1) st)).2 0 = _; rw [zp_s2]; exact h2⟩
    · exact ⟨h1, h2⟩
  unfold zX7_takeStop
  simp only [zz_v]
  split
  · split
    · exact go _
    · split
      · exact go _
      · exact go _
  · exact ⟨H, rfl⟩
theorem zt_stops {f : Nat → Int32} {e T : Nat} {st : zz_T} (H : zi_I f e T st) : zp_ok (zX8_bringStops st) (fun x => zi_I f e T x ∧ x.2 0 = st.2 0) := by
  unfold zX8_bringStops
  refine zp_loop0 (F := fun n v (s : zz_T) => zX8_bringStops_2 n v s) (N := 6) (by decide) (fun _ s => zi_I f e T s ∧ s.2 0 = st.2 0) (fun n s hs => ?_) (fun n k s hk hs ih => ?_) ⟨H, rfl⟩
  · rw [zX8_bringStops_2, show zX7_count s = nI 6 from hs.1.1.2.2.1, if_pos (Int32.le_refl _)]; exact .ret hs
  · rw [zX8_bringStops_2, show zX7_count s = nI 6 from hs.1.1.2.2.1, if_neg (nI_ge hk (by decide))]
    simp only [zz_v]
    obtain ⟨h1, h2⟩ := zt_stop hk hs.1 (s.2 0)
    refine zp_ite (fun _ => ?_) (fun _ => ih _ ⟨h1, h2.trans hs.2⟩)
    obtain ⟨L, g, r, s1, s2, s3, s4, s5, s6, s7, -⟩ := h1.2.2.2.2.1 k hk
    refine (zd_drop (b := 6) (Or.inl rfl) hk s4 s1 (by omega) s3).bind (fun y hy => ih _ ⟨zi_I_out hy (fun w hw => ?_) h1, (hy.1.s (by decide)).trans (h2.trans hs.2)⟩)
    obtain ⟨q1, q2⟩ := h1.2.2.2.2.2.1.2 w hw
    refine ⟨q1, Iff.trans ?_ q2⟩
    unfold zi_kept
    rw [hy.2.1 (48 + w) (by omega) 0 (by decide) (Or.inr (zk_w48 hk s3))]
/-! engines -/
def zqE : Nat → List Int32
  | 0 => [2, 3, 4]
  | 16 => [1, 5, 6, 7, 8, 9, 13, 15]
  | t => zq0 t
theorem zi_I_E {f : Nat → Int32} {e T : Nat} {a b : zz_T} (h : zq zqE [] a b) (h3 : zp_all 3 (zp_li 8) b) (hE : zi_E T b) (H : zi_I f e T a) : zi_I f e T b := by
  obtain ⟨hN, hL, hU, hX, hS, hK, hP, hT, hG, -, hD⟩ := H
  have h60 := hN.2.2.2.2.1
  exact ⟨zq_N h (by decide) hN, zq_L h (by decide) (by decide) h3 hL, zq_U h (by decide) rfl hU, zq_X h (by decide) (by decide) hX, zq_S h (by decide) (by decide) hS, zq_K h (by decide) (by decide) (by decide) hK, zq_P h (by decide) rfl rfl rfl rfl (by decide) hP, zq_T h60 h (by decide) (by decide) hT, zq_G h60 h (by decide) hG, hE, zq_D h60 h (by decide) (by decide) (by decide) hD⟩
/-- a number counted up or down at one place -/
theorem zp_s_inc {m m' : Nat → Nat} {h : Nat} (hh : h < 6) (hm : ∀ s, s ≠ h → m' s = m s) : zp_s m' 0 6 + m h = zp_s m 0 6 + m' h := zp_s_upd 6 0 (Nat.zero_le _) (by omega) (fun i hi _ _ => hm i hi)
theorem ze_sums {a b : zz_T} {T : Nat} (h : ∀ i, i < T → zz_g 16 (nI i) 2 b = zz_g 16 (nI i) 2 a) : zp_s (ze_h b) 0 T = zp_s (ze_h a) 0 T := zp_s_congr T 0 (fun i _ hi => by unfold ze_h zi_how; rw [h i (by omega)])
theorem zt_engines {f : Nat → Int32} {e T : Nat} {st : zz_T} (H : zi_I f e T st) : zp_ok (zX8_bringEngines st) (fun x => zi_I f e T x ∧ x.2 0 = st.2 0) := by
  unfold zX8_bringEngines
  have h60 := H.1.2.2.2.2.1
  refine zp_loop0 (F := fun n v (s : zz_T) => zX8_bringEngines_2 n v s) (N := T) (by omega) (fun _ s => zi_I f e T s ∧ s.2 0 = st.2 0) (fun n s hs => ?_) (fun n k s hk hs ih => ?_) ⟨H, rfl⟩
  · rw [zX8_bringEngines_2, show zX6_count s = nI T from hs.1.1.2.2.2.1, if_pos (Int32.le_refl _)]; exact .ret hs
  · rw [zX8_bringEngines_2, show zX6_count s = nI T from hs.1.1.2.2.2.1, if_neg (nI_ge hk (by omega))]
    refine zp_ite (fun hc => ?_) (fun _ => ih _ hs)
    simp only [zz_v]
    have Hs := hs.1
    obtain ⟨t, ht, et⟩ := Hs.1.2.2.2.2.2.1
    obtain ⟨h, hh, eh⟩ := (Hs.2.2.2.2.2.2.2.1.1 k hk).2.2.2.2.1
    rw [show zX6_get (nI k) 12 s = nI h from eh]
    have hc15 : zz_g 16 (nI k) 15 s = nI t := hc.trans et
    obtain ⟨b, eb⟩ : ∃ b, b = zX6_set (nI k) 15 (-1) (zX1_addEngines (nI h) 1 s) := ⟨_, rfl⟩
    have db : b = zz_set 16 (nI k) 15 (-1) (zz_add 0 (nI h) 2 1 s) := eb
    rw [← eb]
    have k60 : k < zp_R 16 := show k < 60 by omega
    have h10 : h < zp_R 0 := show h < 10 by omega
    have hF : zp_F [0, 16] [] s b := by rw [db]; exact (zp_F.rfl.add (by decide)).set (by decide)
    have hq : zq zqE [] s b := by rw [db]; exact (zq_rf.add (by decide) h10 (by decide) (by decide)).set (by decide) k60 (by decide) (by decide)
    refine ih _ ⟨zi_I_E hq (zp_all.F hF (by decide) Hs.2.1.2.2) ?_ Hs, (hF.s (by decide)).trans hs.2⟩
    obtain ⟨m, m1, m2⟩ := Hs.2.2.2.2.2.2.2.2.2.1
    have m2 : zp_s m 0 6 + zp_s (ze_h s) 0 T + zp_s (ze_b s) 0 T ≤ 24 := m2
    refine ⟨fun x => if x = h then m h + 1 else m x, fun x hx => ?_, ?_⟩
    · rw [db, zp_gn (by decide), za0 (by omega) (by omega) (by decide) (by decide)]
      by_cases q : x = h
      · rw [if_pos ⟨q, rfl⟩]
        show _ = nI (if x = h then m h + 1 else m x)
        rw [if_pos q, m1 h hh, nI_1]
      · rw [if_neg (fun r => q r.1)]
        show _ = nI (if x = h then m h + 1 else m x)
        rw [if_neg q]
        exact m1 x hx
    · have i1 := zp_s_inc (m := m) (m' := fun x => if x = h then m h + 1 else m x) hh (fun x hx => if_neg hx)
      have i2 : zp_s (ze_h b) 0 T = zp_s (ze_h s) 0 T := ze_sums (fun i hi => hq.g 16 (by decide) (show i < 60 by omega) (by decide) (by decide))
      have i3 := zp_s_upd (f := ze_b s) (g := ze_b b) (j := k) T 0 (Nat.zero_le _) (by omega) (fun i hne _ hi => by
        unfold ze_b
        rw [db, zg16 (by omega) (show i < 60 by omega) (by decide) (by decide), if_neg (fun r => hne r.1), zp_gan (by decide)])
      have i4 : ze_b s k = 1 := zp_b1 (by rw [hc15]; exact fun w => absurd (w ▸ (by decide : (-1 : Int32) < 0)) (nI_pos (by omega)))
      have i5 : ze_b b k = 0 := zp_b0 (fun w => w (by rw [db, zg16 (by omega) (by omega) (by decide) (by decide), if_pos ⟨rfl, rfl⟩]))
      show zp_s (fun x => if x = h then m h + 1 else m x) 0 6 + zp_s (ze_h b) 0 T + zp_s (ze_b b) 0 T ≤ 24
      rw [if_pos rfl] at i1
      omega
/-! stages -/
def zqS : Nat → List Int32
  | 4 => [4, 5, 6, 7, 8, 9, 10, 11, 12]
  | 5 => [0, 1, 2]
  | t => zq0 t
theorem zi_I_S {f : Nat → Int32} {e T : Nat} {a b : zz_T} (h : zq zqS [] a b) (h3 : zp_all 3 (zp_li 8) b) (hS : zi_S b) (hD : zi_D T b) (H : zi_I f e T a) : zi_I f e T b := by
  obtain ⟨hN, hL, hU, hX, -, hK, hP, hT, hG, hE, -⟩ := H
  have h60 := hN.2.2.2.2.1
  exact ⟨zq_N h (by decide) hN, zq_L h (by decide) (by decide) h3 hL, zq_U h (by decide) rfl hU, zq_X h (by decide) (by decide) hX, hS, zq_K h (by decide) (by decide) (by decide) hK, zq_P h (by decide) rfl rfl rfl rfl (by decide) hP, zq_T h60 h (by decide) (by decide) hT, zq_G h60 h (by decide) hG, zq_E h60 h (by decide) (by decide) hE, hD⟩
/-- one UNIT's stages change, the other ones' don't -/
theorem zi_S_ext {a b : zz_T} (u0 : Nat) (h4 : ∀ u, u < 6 → u ≠ u0 → ∀ c : Int32, c = 1 ∨ c = 6 ∨ c = 7 ∨ c = 8 ∨ c = 9 → zz_g 4 (nI u) c b = zz_g 4 (nI u) c a) (h5 : ∀ u l, u < 6 → u ≠ u0 → l < 8 → ∀ c : Int32, c = 0 ∨ c = 1 → zz_g 5 (nI (8 * u + l)) c b = zz_g 5 (nI (8 * u + l)) c a) (hn : u0 < 6 → ∃ L g r, zi_S1 u0 L g r b) (H : zi_S a) : zi_S b := by
  intro u hu
  by_cases q : u = u0
  · subst q; exact hn hu
  · obtain ⟨L, g, r, s1, s2, s3, s4, s5, s6, s7, s8, s9, s10⟩ := H u hu
    have e5 := fun l hl => h5 u l hu q hl
    have c0 : zp_s (zi_c0 u b) 0 L = zp_s (zi_c0 u a) 0 L := zp_s_congr L 0 (fun j _ hj => by unfold zi_c0; rw [e5 j (by omega) 0 (Or.inl rfl)])
    have c2 : zp_s (zi_c2 u b) 0 L = zp_s (zi_c2 u a) 0 L := zp_s_congr L 0 (fun j _ hj => by unfold zi_c2; rw [e5 j (by omega) 0 (Or.inl rfl)])
    refine ⟨L, g, r, ?_, s2, s3, ?_, ?_, s6, s7, ?_, ?_, fun l hl => ?_⟩
    · rw [h4 u hu q 1 (by simp)]; exact s1
    · rw [h4 u hu q 7 (by simp)]; exact s4
    · rw [h4 u hu q 6 (by simp)]; exact s5
    · rw [h4 u hu q 8 (by simp), c0]; exact s8
    · rw [h4 u hu q 9 (by simp), c2]; exact s9
    · rw [e5 l hl 0 (Or.inl rfl), e5 l hl 1 (Or.inr rfl)]; exact s10 l hl
theorem zt_one {f : Nat → Int32} {e T u l : Nat} {s : zz_T} (hu : u < 6) (hl : l < 8) {L : Nat} (hL : zz_g 4 (nI u) 1 s = nI L) (hlL : l < L) (hL8 : L ≤ 8) (h1 : zz_g 5 (nI (8 * u + l)) 0 s = 1) (H : zi_I f e T s) : zi_I f e T (zz_add 4 (nI u) 9 1 (zz_set 5 (nI (8 * u + l)) 0 2 s)) := by
  have h60 := H.1.2.2.2.2.1
  obtain ⟨b, eb⟩ : ∃ b, b = zz_add 4 (nI u) 9 1 (zz_set 5 (nI (8 * u + l)) 0 2 s) := ⟨_, rfl⟩
  rw [← eb]
  have hF : zp_F [4, 5] [] s b := by rw [eb]; exact (zp_F.rfl.set (by decide)).add (by decide)
  have hq : zq zqS [] s b := by rw [eb]; exact (zq_rf.set (by decide) (show 8 * u + l < 48 by omega) (by decide) (by decide)).add (by decide) (show u < zp_R 4 from hu) (by decide) (by decide)
  have g4 : ∀ x, x < 6 → ∀ c : Int32, 0 ≤ c ∧ c < 13 → zz_g 4 (nI x) c b = if x = u ∧ c = 9 then zz_g 4 (nI u) 9 s + 1 else zz_g 4 (nI x) c s := fun x hx c hc => by
    rw [eb, za4 hu hx (by decide) hc, zp_gn (by decide), zp_gn (by decide)]
  have g5 : ∀ x, x < 48 → ∀ c : Int32, 0 ≤ c ∧ c < 3 → zz_g 5 (nI x) c b = if x = 8 * u + l ∧ c = 0 then 2 else zz_g 5 (nI x) c s := fun x hx c hc => by
    rw [eb, zp_gan (by decide), zg5 (by omega) hx (by decide) hc]
  refine zi_I_S hq (zp_all.F hF (by decide) H.2.1.2.2) (zi_S_ext u (fun x hx hne c hc => ?_) (fun x k hx hne hk c hc => ?_) (fun _ => ?_) H.2.2.2.2.1) ?_ H
  · have hc13 : 0 ≤ c ∧ c < 13 := by rcases hc with rfl | rfl | rfl | rfl | rfl <;> decide
    rw [g4 x hx c hc13, if_neg (fun q => hne q.1)]
  · have hc3 : 0 ≤ c ∧ c < 3 := by rcases hc with rfl | rfl <;> decide
    rw [g5 _ (by omega) c hc3, if_neg (fun q => by omega)]
  · obtain ⟨L', g, r, s1, s2, s3, s4, s5, s6, s7, s8, s9, s10⟩ := H.2.2.2.2.1 u hu
    have eL : L' = L := (nI_eq (by omega) (by omega)).mp (s1.symm.trans hL)
    subst eL
    have e0 : ∀ j, j < 8 → zz_g 5 (nI (8 * u + j)) 0 b = if j = l then 2 else zz_g 5 (nI (8 * u + j)) 0 s := fun j hj => by
      rw [g5 _ (by omega) 0 (by decide)]
      by_cases q : j = l
      · rw [if_pos ⟨by rw [q], rfl⟩, if_pos q]
      · rw [if_neg (fun r => q (by omega)), if_neg q]
    have c0 : zp_s (zi_c0 u b) 0 L' = zp_s (zi_c0 u s) 0 L' := zp_s_congr L' 0 (fun j _ hj => by
      unfold zi_c0
      rw [e0 j (by omega)]
      by_cases q : j = l
      · rw [if_pos q, q, h1, zp_b1 (by decide), zp_b1 (by decide)]
      · rw [if_neg q])
    have c2 := zp_s_upd (f := zi_c2 u s) (g := zi_c2 u b) (j := l) L' 0 (Nat.zero_le _) (by omega) (fun j hne _ hj => by
      unfold zi_c2
      rw [e0 j (by omega), if_neg hne])
    have c2a : zi_c2 u s l = 0 := zp_b0 (by rw [h1]; decide)
    have c2b : zi_c2 u b l = 1 := zp_b1 (by rw [e0 l hl, if_pos rfl])
    refine ⟨L', g, r, ?_, s2, s3, ?_, ?_, s6, s7, ?_, ?_, fun j hj => ?_⟩
    · rw [g4 u hu 1 (by decide), if_neg (fun q => absurd q.2 (by decide))]; exact s1
    · rw [g4 u hu 7 (by decide), if_neg (fun q => absurd q.2 (by decide))]; exact s4
    · rw [g4 u hu 6 (by decide), if_neg (fun q => absurd q.2 (by decide))]; exact s5
    · rw [g4 u hu 8 (by decide), if_neg (fun q => absurd q.2 (by decide)), c0]; exact s8
    · rw [g4 u hu 9 (by decide), if_pos ⟨rfl, rfl⟩, s9, nI_1]
      rw [c2a, c2b] at c2
      rw [← c2]
      rfl
    · obtain ⟨p1, p2, p3⟩ := s10 j hj
      have e1 : zz_g 5 (nI (8 * u + j)) 1 b = zz_g 5 (nI (8 * u + j)) 1 s := by rw [g5 _ (by omega) 1 (by decide), if_neg (fun q => absurd q.2 (by decide))]
      rw [e0 j hj, e1]
      by_cases q : j = l
      · rw [if_pos q]
        refine ⟨⟨2, by decide, rfl⟩, fun hg => ?_, p3⟩
        have := p2 hg
        rw [q, h1] at this
        exact absurd this (by decide)
      · rw [if_neg q]; exact ⟨p1, p2, p3⟩
  · refine zi_D_mono (fun i hi hh => ?_) (fun i hi hh hd => ?_) H.2.2.2.2.2.2.2.2.2.2
    · unfold zi_how at hh ⊢
      rw [hF.g (by decide)] at hh
      exact ⟨hh, hF.g (by decide) _ _, hF.g (by decide) _ _⟩
    · refine zi_D1_mono (hF.g (by decide) _ _) (hF.g (by decide) _ _) (fun u' l' g hu' hl' _ _ q3 q4 q5 q6 => ⟨⟨g, ?_, q4, q5⟩, ?_⟩) hd
      · rw [g4 u' hu' 7 (by decide), if_neg (fun q => absurd q.2 (by decide))]; exact q3
      · rw [g5 _ (by omega) 0 (by decide)]
        by_cases q : 8 * u' + l' = 8 * u + l
        · rw [q, h1] at q6; exact absurd q6 (by decide)
        · rw [if_neg (fun r => q r.1)]; exact q6
theorem zt_come {f : Nat → Int32} {e T : Nat} {st : zz_T} (H : zi_I f e T st) (v : Int32) : zp_ok (zX7_come v st) (fun x => zi_I f e T x ∧ x.2 0 = st.2 0) := by
  unfold zX7_come
  refine zp_loop0 (F := fun n x (s : zz_T) => zX7_come_2 n v x s) (N := 6) (by decide) (fun _ s => zi_I f e T s ∧ s.2 0 = st.2 0) (fun n s hs => ?_) (fun n k s hk hs ih => ?_) ⟨H, rfl⟩
  · rw [zX7_come_2, hs.1.1.2.2.1, if_pos (Int32.le_refl _)]; exact .ret hs
  · rw [zX7_come_2, hs.1.1.2.2.1, if_neg (nI_ge hk (by decide))]
    obtain ⟨L, g, r, s1, s2, s3, -⟩ := hs.1.2.2.2.2.1 k hk
    refine zp_loop0 (F := fun m x (s : zz_T) => zX7_come_12 (fun v1' v2' st' => zX7_come_2 n v1' v2' st') m v (nI k) x s) (N := L) (by omega) (fun _ s => (zi_I f e T s ∧ s.2 0 = st.2 0) ∧ zz_g 4 (nI k) 1 s = nI L) (fun m s hs => ?_) (fun m j s hj hs ih2 => ?_) ⟨hs, s1⟩
    · rw [zX7_come_12, hs.2, if_pos (Int32.le_refl _)]
      exact ih _ hs.1
    · rw [zX7_come_12, hs.2, if_neg (nI_ge hj (by omega))]
      simp only [zz_v, zr_slot]
      refine zp_ite (fun h1 => zp_ite (fun _ => ih2 _ hs) (fun _ => ?_)) (fun _ => ih2 _ hs)
      refine ih2 _ ⟨⟨zt_one hk (by omega) hs.2 hj s3 h1 hs.1.1, by rw [zp_a2, zp_s2]; exact hs.1.2⟩, ?_⟩
      rw [za4 hk hk (by decide) (by decide), if_neg (fun q => absurd q.2 (by decide)), zp_gn (by decide)]
      exact hs.2
/-! a DAY begins -/
theorem zt_told {st : zz_T} {p : Nat} (h : zp_bl 7 (zz_g 21 (nI p) 0 st)) (a b c : Int32) : zp_ok (zX0_toldFromTo (nI p) a b c st) (fun _ => True) := by
  obtain ⟨n, hn, en⟩ := h
  unfold zX0_toldFromTo
  refine zp_loop0 (F := fun m x (s : Int32) => zX0_toldFromTo_6 m (nI p) a b c s x st) (N := n) (by omega) (fun _ _ => True) (fun m s _ => ?_) (fun m k s hk _ ih => ?_) trivial
  · rw [zX0_toldFromTo_6, en, if_pos (Int32.le_refl _)]; exact .ret trivial
  · rw [zX0_toldFromTo_6, en, if_neg (nI_ge hk (by omega))]
    simp only [zz_v]
    have go : ∀ (w : Int32) (q : Bool), zp_ok (zX0_toldFromTo_73 (fun v1' v2' v3' v4' v5' v6' st' => zX0_toldFromTo_6 m v1' v2' v3' v4' v5' v6' st') (nI p) a b c s (nI k) w q st) (fun _ => True) := fun w q => by
      unfold zX0_toldFromTo_73
      simp only [zz_v]
      exact zp_ite (fun _ => ih _ trivial) (fun _ => ih _ trivial)
    exact zp_ite (fun _ => zp_ite (fun _ => go _ _) (fun _ => zp_ite (fun _ => go _ _) (fun _ => go _ _))) (fun _ => go _ _)
def zl_L (st : zz_T) (u : Nat) : Nat := (zz_g 4 (nI u) 1 st).toNatClampNeg
theorem zl_eq {st : zz_T} (h : zi_S st) : ∀ u, u < 6 → zz_g 4 (nI u) 1 st = nI (zl_L st u) ∧ zl_L st u ≤ 8 := fun u hu => by
  obtain ⟨L, g, r, s1, s2, s3, -⟩ := h u hu
  unfold zl_L
  rw [s1, nI_clamp (by omega)]
  exact ⟨rfl, s3⟩
theorem zi_kinds {f : Nat → Int32} {st : zz_T} (h : zi_U f st) : ∀ u, u < 6 → zp_bl 5 (zz_g 4 (nI u) 0 st) := fun u hu => by rw [(h.1 u hu).1.1]; exact (h.1 u hu).1.2
theorem zt_set19 {f : Nat → Int32} {e T k : Nat} {s : zz_T} (hk : k < 3) (c v : Int32) (hc : (0 ≤ c ∧ c < 13) ∧ c ≠ 0) (hs : zi_I f e T s) : zi_I f e T (zz_set 19 (nI k) c v s) := by
  refine zi_I_set (t := 19) (by decide) (show k < zp_R 19 from hk) hc.1 ?_ hs
  obtain ⟨j, hj, rfl⟩ := nI_of (Int32.not_lt.mpr hc.1.1)
  have hj13 : j < 13 := (nI_ltI (b := 13) hj (by decide)).mp hc.1.2
  rcases (show j = 0 ∨ j = 1 ∨ j = 2 ∨ j = 3 ∨ j = 4 ∨ j = 5 ∨ j = 6 ∨ j = 7 ∨ j = 8 ∨ j = 9 ∨ j = 10 ∨ j = 11 ∨ j = 12 by omega) with rfl | rfl | rfl | rfl | rfl | rfl | rfl | rfl | rfl | rfl | rfl | rfl | rfl
  · exact absurd rfl hc.2
  all_goals decide
theorem zt_feed {f : Nat → Int32} {e T k : Nat} {s : zz_T} (hk : k < 3) (a b : Int32) (hs : zi_I f e T s) : zi_I f e T (zX3_feed (nI k) a b s) := by
  unfold zX3_feed zX3_store
  simp only [zz_v]
  refine zp_if (fun x => zi_I f e T x) (fun _ => ?_) (fun _ => ?_)
  · exact zt_set19 hk _ _ (by decide) (zt_set19 hk _ _ (by decide) (zt_set19 hk _ _ (by decide) hs))
  · exact zt_set19 hk _ _ (by decide) (zt_set19 hk _ _ (by decide) (zt_set19 hk _ _ (by decide) hs))
theorem zt_fight {f : Nat → Int32} {e T k : Nat} {s : zz_T} (hk : k < 3) (a : Int32) (hs : zi_I f e T s) : zi_I f e T (zX3_fight (nI k) a s) := by
  have go : ∀ w, zi_I f e T (zX3_fight_21 (nI k) w s) := fun w => by
    unfold zX3_fight_21
    simp only [zz_v]
    have h3 : ∀ x y z : Int32, zi_I f e T (zz_add 19 (nI k) 9 x (zz_add 19 (nI k) 4 y (zz_set 19 (nI k) 6 z s))) := fun x y z => zt_set19 hk _ _ (by decide) (zt_set19 hk _ _ (by decide) (zt_set19 hk _ _ (by decide) hs))
    split
    · exact zt_set19 hk _ _ (by decide) (h3 _ _ _)
    · exact h3 _ _ _
  unfold zX3_fight
  split
  · exact go _
  · exact go _
theorem zt_2F {ts : List Nat} {a b : zz_T} (h : zp_F ts [] a b) : b.2 0 = a.2 0 := h.s (by simp)
theorem zt_day {f : Nat → Int32} {e T : Nat} {st : zz_T} (H : zi_I f e T st) : zp_ok (zX8_beginDay st) (fun x => zi_I f e T x ∧ x.2 0 = st.2 0) := by
  unfold zX8_beginDay
  refine zp_loop0 (F := fun n x (s : zz_T) => zX8_beginDay_2 n x s) (N := 3) (by decide) (fun _ s => zi_I f e T s ∧ s.2 0 = st.2 0) (fun n s hs => ?_) (fun n k s hk hs ih => ?_) ⟨H, rfl⟩
  · rw [zX8_beginDay_2, if_pos (by decide)]; exact .ret hs
  · rw [zX8_beginDay_2, if_neg (show ¬ (3 : Int32) ≤ nI k from nI_ge (a := k) (b := 3) hk (by decide))]
    have come : zp_ok (zX0_come (nI k) (zX8_day s) s) (fun x => zi_I f e T x.2 ∧ x.2.2 0 = st.2 0) := by
      unfold zX0_come
      rw [show s.2 7 = nI 0 from hs.1.1.2.2.2.2.2.2.2]
      refine (zt_told (hs.1.2.2.2.1.2 0 (by decide)) _ _ _).bind (fun x _ => .ret ⟨zi_I_wild (t := 22) (by decide) rfl hs.1, ?_⟩)
      show (zz_set 22 _ _ _ s).2 0 = _
      rw [zp_s2]
      exact hs.2
    refine come.bind (fun x hx => zp_ite (fun _ => ?_) (fun _ => ih _ hx))
    obtain ⟨h1, h2⟩ := hx
    refine (zr_countBakery h1.1.2.2.1 _ (zl_eq h1.2.2.2.2.1) k).bind (fun y _ => ?_)
    rw [zr_countAllAt h1.1.2.2.1 _ (zl_eq h1.2.2.2.2.1) k]
    show zp_ok (zz_v _ _) _
    simp only [zz_v]
    have a1 : zi_I f e T (zX3_add (nI k) 4 x.1 x.2) := zt_set19 hk _ _ (by decide) h1
    have a2 : (zX3_add (nI k) 4 x.1 x.2).2 0 = st.2 0 := by
      show (zz_add 19 _ _ _ _).2 0 = _
      rw [zp_a2]; exact h2
    have b1 := fun w => zt_feed hk y w a1
    have b2 : ∀ w, (zX3_feed (nI k) y w (zX3_add (nI k) 4 x.1 x.2)).2 0 = st.2 0 := fun w => by
      unfold zX3_feed zX3_store
      simp only [zz_v]
      refine zp_if (fun x : zz_T => x.2 0 = st.2 0) (fun _ => ?_) (fun _ => ?_)
      · rw [zp_s2, zp_s2, zp_s2]; exact a2
      · rw [zp_s2, zp_s2, zp_s2]; exact a2
    rw [zr_weightAt (b1 _).1.2.2.1 (zi_kinds (b1 _).2.2.1) _ (zl_eq (b1 _).2.2.2.2.1) k]
    show zp_ok (zz_v _ _) _
    simp only [zz_v]
    refine ih _ ⟨zt_fight hk _ (b1 _), ?_⟩
    have go : ∀ (w : Int32) (s : zz_T), (zX3_fight_21 (nI k) w s).2 = s.2 := fun w s => by
      unfold zX3_fight_21
      simp only [zz_v]
      split
      · rw [zp_s2, zp_a2, zp_a2, zp_s2]
      · rw [zp_a2, zp_a2, zp_s2]
    unfold zX3_fight
    split
    · rw [go]; exact b2 _
    · rw [go]; exact b2 _
/-! DEPOTS -/
def zq1 (t0 : Nat) (cs : List Int32) : Nat → List Int32 := fun t => if t = t0 then cs else []
theorem zt_nextOf {st : zz_T} (h4 : st.2 4 = nI 6) (v : Int32) : zp_ok (zX7_nextOf v st) (fun x => x = -1 ∨ ∃ u, u < 6 ∧ x = nI u ∧ ¬ zz_g 4 (nI u) 1 st ≤ zz_g 4 (nI u) 6 st) := by
  unfold zX7_nextOf
  refine zp_loop0 (F := fun n x (w : Int32) => zX7_nextOf_4 n v w x st) (N := 6) (by decide) (fun _ x => x = -1 ∨ ∃ u, u < 6 ∧ x = nI u ∧ ¬ zz_g 4 (nI u) 1 st ≤ zz_g 4 (nI u) 6 st) (fun n w hw => ?_) (fun n k w hk hw ih => ?_) (Or.inl rfl)
  · rw [zX7_nextOf_4, h4, if_pos (Int32.le_refl _)]; exact .ret hw
  · rw [zX7_nextOf_4, h4, if_neg (nI_ge hk (by decide))]
    have no : zp_ok (zX7_nextOf_65 (fun v1' v2' v3' st' => zX7_nextOf_4 n v1' v2' v3' st') v w (nI k) false st) (fun x => x = -1 ∨ ∃ u, u < 6 ∧ x = nI u ∧ ¬ zz_g 4 (nI u) 1 st ≤ zz_g 4 (nI u) 6 st) := by
      unfold zX7_nextOf_65
      rw [if_neg (by decide)]
      exact ih _ hw
    refine zp_ite (fun _ => zp_ite (fun _ => zp_ite (fun _ => no) (fun hr => ?_)) (fun _ => no)) (fun _ => no)
    unfold zX7_nextOf_65
    rw [if_pos rfl]
    have nw : zp_ok (zX7_nextOf_4 n v (nI k) (nI k + 1) st) (fun x => x = -1 ∨ ∃ u, u < 6 ∧ x = nI u ∧ ¬ zz_g 4 (nI u) 1 st ≤ zz_g 4 (nI u) 6 st) := ih _ (Or.inr ⟨k, hk, rfl, hr⟩)
    exact zp_ite (fun _ => nw) (fun _ => zp_ite (fun _ => ih _ hw) (fun _ => nw))
theorem zt_work {f : Nat → Int32} {e T : Nat} {st : zz_T} (H : zi_I f e T st) (v : Int32) : zp_ok (zX7_workAt v st) (fun x => zi_I f e T x ∧ x.2 0 = st.2 0) := by
  unfold zX7_workAt
  refine (zt_nextOf H.1.2.2.1 v).bind (fun x hx => zp_ite (fun _ => .ret ⟨H, rfl⟩) (fun hn => ?_))
  obtain ⟨u, hu, rfl, hr⟩ := hx.resolve_left hn
  simp only [zz_v]
  have hu' : u < zp_R 4 := hu
  have h1 : zi_I f e T (zz_add 4 (nI u) 12 1 st) := zi_I_set (t := 4) (by decide) hu' (by decide) (by decide) H
  refine zp_ite (fun _ => .ret ⟨h1, by rw [zp_a2]⟩) (fun _ => ?_)
  have h2 : zi_I f e T (zz_set 4 (nI u) 12 0 (zz_add 4 (nI u) 12 1 st)) := zi_I_set (t := 4) (by decide) hu' (by decide) (by decide) h1
  obtain ⟨a, ea⟩ : ∃ a, a = zz_set 4 (nI u) 12 0 (zz_add 4 (nI u) 12 1 st) := ⟨_, rfl⟩
  have e1 : zz_g 4 (nI u) 1 a = zz_g 4 (nI u) 1 st := by rw [ea, zg4 hu hu (by decide) (by decide), if_neg (fun q => absurd q.2 (by decide)), za4 hu hu (by decide) (by decide), if_neg (fun q => absurd q.2 (by decide))]
  have e6 : zz_g 4 (nI u) 6 a = zz_g 4 (nI u) 6 st := by rw [ea, zg4 hu hu (by decide) (by decide), if_neg (fun q => absurd q.2 (by decide)), za4 hu hu (by decide) (by decide), if_neg (fun q => absurd q.2 (by decide))]
  have e0 : a.2 0 = st.2 0 := by rw [ea, zp_s2, zp_a2]
  rw [← ea] at h2 ⊢
  rw [← e1, ← e6] at hr
  have hF : zp_F [4] [] a (zz_add 4 (nI u) 6 1 a) := zp_F.rfl.add (by decide)
  have hq : zq zqS [] a (zz_add 4 (nI u) 6 1 a) := zq_rf.add (by decide) hu' (by decide) (by decide)
  have g4 : ∀ x, x < 6 → ∀ c : Int32, 0 ≤ c ∧ c < 13 → zz_g 4 (nI x) c (zz_add 4 (nI u) 6 1 a) = if x = u ∧ c = 6 then zz_g 4 (nI u) 6 a + 1 else zz_g 4 (nI x) c a := fun x hx c hc => za4 hu hx (by decide) hc
  refine .ret ⟨zi_I_S hq (zp_all.F hF (by decide) h2.2.1.2.2) (zi_S_ext u (fun x hx hne c hc => ?_) (fun x k hx hne hk c hc => hF.g (by decide) _ _) (fun _ => ?_) h2.2.2.2.2.1) (zq_D h2.1.2.2.2.2.1 (d := zq1 4 [6]) (ks := []) (zq_rf.add (by decide) hu' (by decide) (by decide)) (by decide) (by decide) (by decide) h2.2.2.2.2.2.2.2.2.2.2) h2, by rw [zp_a2]; exact e0⟩
  · have hc13 : 0 ≤ c ∧ c < 13 := by rcases hc with rfl | rfl | rfl | rfl | rfl <;> decide
    rw [g4 x hx c hc13, if_neg (fun q => hne q.1)]
  · obtain ⟨L, g, r, s1, s2, s3, s4, s5, s6, s7, s8, s9, s10⟩ := h2.2.2.2.2.1 u hu
    rw [s1, s5, nI_leI (by omega) (by omega)] at hr
    have c0 : zi_c0 u (zz_add 4 (nI u) 6 1 a) = zi_c0 u a := by funext j; unfold zi_c0; rw [hF.g (by decide)]
    have c2 : zi_c2 u (zz_add 4 (nI u) 6 1 a) = zi_c2 u a := by funext j; unfold zi_c2; rw [hF.g (by decide)]
    refine ⟨L, g, r + 1, ?_, s2, s3, ?_, ?_, by omega, by omega, ?_, ?_, fun l hl => ?_⟩
    · rw [g4 u hu 1 (by decide), if_neg (fun q => absurd q.2 (by decide))]; exact s1
    · rw [g4 u hu 7 (by decide), if_neg (fun q => absurd q.2 (by decide))]; exact s4
    · rw [g4 u hu 6 (by decide), if_pos ⟨rfl, rfl⟩, s5, nI_1]
    · rw [g4 u hu 8 (by decide), if_neg (fun q => absurd q.2 (by decide)), c0]; exact s8
    · rw [g4 u hu 9 (by decide), if_neg (fun q => absurd q.2 (by decide)), c2]; exact s9
    · rw [hF.g (by decide), hF.g (by decide)]; exact s10 l hl
