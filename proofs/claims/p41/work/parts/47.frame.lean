/-! PURE: frames, column by column -/
def zqw : List Int32 := [0, 1, 2, 3, 4, 5, 6, 7, 8, 9, 10, 11, 12, 13, 14, 15, 16, 17, 18, 19, 20]
abbrev zqn (cs ds : List Int32) : Prop := ∀ c ∈ cs, c ∉ ds
def zq (d : Nat → List Int32) (ks : List Nat) (a b : zz_T) : Prop := (∀ t, t < 24 → zp_C t (d t) a b) ∧ ∀ k, k ∉ ks → b.2 k = a.2 k
theorem zqw_k : ∀ k, k < 21 → nI k ∈ zqw := by decide +kernel
theorem zqw_all {t : Nat} (ht : t < 24) {c : Int32} (hc : 0 ≤ c ∧ c < zz_w t) : c ∈ zqw := by
  obtain ⟨k, hk, rfl⟩ := zp_col ht hc
  have := (zp_wd t ht).2.2.1
  exact zqw_k k (by omega)
theorem zq_rf {d : Nat → List Int32} {ks : List Nat} {a : zz_T} : zq d ks a a := ⟨fun _ _ => .rfl, fun _ _ => Eq.refl _⟩
theorem zq.trans {d : Nat → List Int32} {ks : List Nat} {a b c : zz_T} (h1 : zq d ks a b) (h2 : zq d ks b c) : zq d ks a c := ⟨fun t ht => (h1.1 t ht).trans (h2.1 t ht), fun k hk => (h2.2 k hk).trans (h1.2 k hk)⟩
theorem zq.mono {d d' : Nat → List Int32} {ks ks' : List Nat} {a b : zz_T} (h : zq d ks a b) (h1 : ∀ t, t < 24 → ∀ x ∈ d t, x ∈ d' t) (h2 : ∀ k ∈ ks, k ∈ ks') : zq d' ks' a b := ⟨fun t ht => (h.1 t ht).mono (h1 t ht), fun k hk => h.2 k (fun q => hk (h2 k q))⟩
theorem zq.g {d : Nat → List Int32} {ks : List Nat} {a b : zz_T} (h : zq d ks a b) (t : Nat) {r : Nat} {x : Int32} (ht : t < 24) (hr : r < zp_R t) (hc : 0 ≤ x ∧ x < zz_w t) (hn : x ∉ d t) : zz_g t (nI r) x b = zz_g t (nI r) x a := h.1 t ht r hr x hc hn
theorem zq.set {d : Nat → List Int32} {ks : List Nat} {a b : zz_T} {t r : Nat} {x v : Int32} (h : zq d ks a b) (ht : t < 24) (hr : r < zp_R t) (hc : 0 ≤ x ∧ x < zz_w t) (hm : x ∈ d t) : zq d ks a (zz_set t (nI r) x v b) := by
  refine ⟨fun u hu => ?_, fun k hk => by rw [zp_s2]; exact h.2 k hk⟩
  by_cases e : u = t
  · subst e; exact (h.1 u hu).set hu hr hc hm
  · exact (h.1 u hu).ne e
theorem zq.add {d : Nat → List Int32} {ks : List Nat} {a b : zz_T} {t r : Nat} {x v : Int32} (h : zq d ks a b) (ht : t < 24) (hr : r < zp_R t) (hc : 0 ≤ x ∧ x < zz_w t) (hm : x ∈ d t) : zq d ks a (zz_add t (nI r) x v b) := h.set ht hr hc hm
theorem zq.S {d : Nat → List Int32} {ks : List Nat} {a b : zz_T} {k : Nat} {v : Int32} (h : zq d ks a b) (hk : k ∈ ks) : zq d ks a (zz_S k v b) := by
  refine ⟨fun u hu => (h.1 u hu).S, fun j hj => ?_⟩
  have hne : j ≠ k := fun q => hj (by rw [q]; exact hk)
  rw [zp_SS, if_neg hne]
  exact h.2 j hj
theorem zq.F {d : Nat → List Int32} {ks ks' ts : List Nat} {a b c : zz_T} (h : zq d ks a b) (hF : zp_F ts ks' b c) (h1 : ∀ t ∈ ts, d t = zqw) (h2 : ∀ k ∈ ks', k ∈ ks) : zq d ks a c := by
  refine h.trans ⟨fun t ht r hr x hx hn => ?_, fun k hk => hF.2 k (fun q => hk (h2 k q))⟩
  by_cases e : t ∈ ts
  · rw [h1 t e] at hn
    exact absurd (zqw_all ht hx) hn
  · exact hF.g e _ _
theorem zq.wild {d : Nat → List Int32} {ks : List Nat} {a b : zz_T} {t : Nat} {r x v : Int32} (h : zq d ks a b) (hw : d t = zqw) : zq d ks a (zz_set t r x v b) :=
  h.F (ts := [t]) (ks' := []) (zp_F.rfl.set (by simp)) (fun u hu => by rw [List.mem_singleton] at hu; rw [hu]; exact hw) (fun k hk => absurd hk (by simp))
theorem zp_all.C {t : Nat} {P : Int32 → Prop} {a b : zz_T} (ht : t < 24) (hC : zp_C t [] a b) (h : zp_all t P a) : zp_all t P b := by
  intro i hi
  obtain ⟨-, h2, h3, -⟩ := zp_wd t ht
  have hw : 0 < zp_w t := by
    rcases Nat.eq_zero_or_pos (zp_w t) with q | q
    · rw [q, Nat.mul_zero] at h2; omega
    · exact q
  have hr : i / zp_w t < zp_R t := by rw [Nat.div_lt_iff_lt_mul hw, h2]; exact hi
  have hk : i % zp_w t < zp_w t := Nat.mod_lt _ hw
  have e : i / zp_w t * zp_w t + i % zp_w t = i := by rw [Nat.mul_comm]; exact Nat.div_add_mod i _
  have hc : (0 : Int32) ≤ nI (i % zp_w t) ∧ nI (i % zp_w t) < zz_w t := ⟨nI_pos' (by omega), by rw [(zp_wd t ht).1]; exact nI_lt hk (by omega)⟩
  have g := hC _ hr _ hc (by simp)
  rw [zp_g ht hr hk, zp_g ht hr hk, e] at g
  rw [g]
  exact h i hi
/-! each part of what always holds, by the columns that it reads -/
theorem zq_L {d : Nat → List Int32} {ks : List Nat} {a b : zz_T} (h : zq d ks a b) (h0 : zqn [0, 1] (d 0)) (h1 : zqn [0, 1, 2, 7] (d 1)) (h3 : zp_all 3 (zp_li 8) b) (H : zi_L a) : zi_L b := by
  obtain ⟨l1, l2, -⟩ := H
  refine ⟨fun r hr => ?_, fun l hl => ?_, h3⟩
  · have hr' : r < zp_R 0 := show r < 10 by omega
    rw [h.g 0 (by decide) hr' (by decide) (h0 0 (by decide)), h.g 0 (by decide) hr' (by decide) (h0 1 (by decide))]
    exact l1 r hr
  · have hl' : l < zp_R 1 := show l < 14 by omega
    have e0 := h.g 1 (by decide) hl' (x := 0) (by decide) (h1 0 (by decide))
    have e1 := h.g 1 (by decide) hl' (x := 1) (by decide) (h1 1 (by decide))
    have e2 := h.g 1 (by decide) hl' (x := 2) (by decide) (h1 2 (by decide))
    have e7 := h.g 1 (by decide) hl' (x := 7) (by decide) (h1 7 (by decide))
    obtain ⟨p1, p2, p3, p4⟩ := l2 l hl
    exact ⟨by rw [e0]; exact p1, by rw [e1]; exact p2, by rw [e2]; exact p3, by rw [e7]; exact p4⟩
theorem zq_U {d : Nat → List Int32} {ks : List Nat} {a b : zz_T} {f : Nat → Int32} (h : zq d ks a b) (h4 : zqn [0, 2, 3] (d 4)) (h23 : d 23 = []) (H : zi_U f a) : zi_U f b := by
  obtain ⟨l1, l2⟩ := H
  refine ⟨fun u hu => ?_, zp_all.C (by decide) (h23 ▸ h.1 23 (by decide)) l2⟩
  have hu' : u < zp_R 4 := hu
  rw [h.g 4 (by decide) hu' (by decide) (h4 0 (by decide)), h.g 4 (by decide) hu' (by decide) (h4 2 (by decide)), h.g 4 (by decide) hu' (by decide) (h4 3 (by decide))]
  exact l1 u hu
theorem zq_X {d : Nat → List Int32} {ks : List Nat} {a b : zz_T} (h : zq d ks a b) (h19 : zqn [0] (d 19)) (h21 : zqn [0] (d 21)) (H : zi_X a) : zi_X b := by
  refine ⟨fun s hs => ?_, fun s hs => ?_⟩
  · rw [h.g 19 (by decide) (show s < zp_R 19 from hs) (by decide) (h19 0 (by decide))]; exact H.1 s hs
  · rw [h.g 21 (by decide) (show s < zp_R 21 from hs) (by decide) (h21 0 (by decide))]; exact H.2 s hs
theorem zq_S {d : Nat → List Int32} {ks : List Nat} {a b : zz_T} (h : zq d ks a b) (h4 : zqn [1, 6, 7, 8, 9] (d 4)) (h5 : zqn [0, 1] (d 5)) (H : zi_S a) : zi_S b := by
  intro u hu
  obtain ⟨L, g, r, s1, s2, s3, s4, s5, s6, s7, s8, s9, s10⟩ := H u hu
  have hu' : u < zp_R 4 := hu
  have e5 : ∀ l, l < 8 → ∀ x : Int32, 0 ≤ x ∧ x < 3 → x ∉ d 5 → zz_g 5 (nI (8 * u + l)) x b = zz_g 5 (nI (8 * u + l)) x a := fun l hl x hx hn => h.g 5 (by decide) (show 8 * u + l < 48 by omega) hx hn
  have n0 := h5 0 (by decide)
  have n1 := h5 1 (by decide)
  have c0 : zp_s (zi_c0 u b) 0 L = zp_s (zi_c0 u a) 0 L := zp_s_congr L 0 (fun j _ hj => by unfold zi_c0; rw [e5 j (by omega) 0 (by decide) n0])
  have c2 : zp_s (zi_c2 u b) 0 L = zp_s (zi_c2 u a) 0 L := zp_s_congr L 0 (fun j _ hj => by unfold zi_c2; rw [e5 j (by omega) 0 (by decide) n0])
  refine ⟨L, g, r, ?_, s2, s3, ?_, ?_, s6, s7, ?_, ?_, fun l hl => ?_⟩
  · rw [h.g 4 (by decide) hu' (by decide) (h4 1 (by decide))]; exact s1
  · rw [h.g 4 (by decide) hu' (by decide) (h4 7 (by decide))]; exact s4
  · rw [h.g 4 (by decide) hu' (by decide) (h4 6 (by decide))]; exact s5
  · rw [h.g 4 (by decide) hu' (by decide) (h4 8 (by decide)), c0]; exact s8
  · rw [h.g 4 (by decide) hu' (by decide) (h4 9 (by decide)), c2]; exact s9
  · rw [e5 l hl 0 (by decide) n0, e5 l hl 1 (by decide) n1]; exact s10 l hl
theorem zq_K {d : Nat → List Int32} {ks : List Nat} {a b : zz_T} {e : Nat} (h : zq d ks a b) (h4 : zqn [1] (d 4)) (h6 : zqn [0] (d 6)) (h18 : zqn [0] (d 18)) (H : zi_K e a) : zi_K e b := by
  have e6 : ∀ x, x < 54 → (zi_kept 6 x b ↔ zi_kept 6 x a) := fun x hx => by
    unfold zi_kept
    rw [h.g 6 (by decide) (show x < zp_R 6 from hx) (by decide) (h6 0 (by decide))]
  refine ⟨fun u l hu hl hk => ?_, fun w hw => ?_⟩
  · rw [h.g 4 (by decide) (show u < zp_R 4 from hu) (by decide) (h4 1 (by decide))]
    exact H.1 u l hu hl ((e6 _ (by omega)).mp hk)
  · rw [h.g 18 (by decide) (show w < zp_R 18 from hw) (by decide) (h18 0 (by decide)), e6 _ (by omega)]
    exact H.2 w hw
theorem zq_P {d : Nat → List Int32} {ks : List Nat} {a b : zz_T} (h : zq d ks a b) (h6 : zqn [0, 1, 2] (d 6)) (h7 : d 7 = []) (h8 : d 8 = []) (h9 : d 9 = []) (h10 : d 10 = []) (h1 : zqn [3, 5, 7] (d 1)) (H : zi_P 6 a) : zi_P 6 b := by
  have col : ∀ l, l < 14 → (0 : Int32) ≤ nI l ∧ nI l < 14 := fun l hl => ⟨nI_pos' (by omega), nI_lt (b := 14) hl (by decide)⟩
  have e6 : ∀ x, x < 54 → ∀ c : Int32, c = 0 ∨ c = 1 ∨ c = 2 → zz_g 6 (nI x) c b = zz_g 6 (nI x) c a := fun x hx c hc => by
    rcases hc with rfl | rfl | rfl
    · exact h.g 6 (by decide) (show x < zp_R 6 from hx) (by decide) (h6 0 (by decide))
    · exact h.g 6 (by decide) (show x < zp_R 6 from hx) (by decide) (h6 1 (by decide))
    · exact h.g 6 (by decide) (show x < zp_R 6 from hx) (by decide) (h6 2 (by decide))
  have e7 : ∀ x, x < 54 → ∀ l, l < 14 → zz_g 7 (nI x) (nI l) b = zz_g 7 (nI x) (nI l) a := fun x hx l hl => h.g 7 (by decide) (show x < zp_R 7 from hx) (col l hl) (by rw [h7]; simp)
  have e8 : ∀ x, x < 54 → ∀ l, l < 14 → zz_g 8 (nI x) (nI l) b = zz_g 8 (nI x) (nI l) a := fun x hx l hl => h.g 8 (by decide) (show x < zp_R 8 from hx) (col l hl) (by rw [h8]; simp)
  have e9 : ∀ x, x < 54 → ∀ l, l < 14 → zz_g 9 (nI x) (nI l) b = zz_g 9 (nI x) (nI l) a := fun x hx l hl => h.g 9 (by decide) (show x < zp_R 9 from hx) (col l hl) (by rw [h9]; simp)
  have e10 : ∀ l, l < 8 → ∀ c : Int32, 0 ≤ c ∧ c < 3 → zz_g 10 (nI l) c b = zz_g 10 (nI l) c a := fun l hl c hc => h.g 10 (by decide) (show l < 14 by omega) hc (by rw [h10]; simp)
  have e1 : ∀ l, l < 8 → zz_g 1 (nI l) 3 b = zz_g 1 (nI l) 3 a ∧ zz_g 1 (nI l) 5 b = zz_g 1 (nI l) 5 a ∧ zz_g 1 (nI l) 7 b = zz_g 1 (nI l) 7 a := fun l hl =>
    ⟨h.g 1 (by decide) (show l < 14 by omega) (by decide) (h1 3 (by decide)), h.g 1 (by decide) (show l < 14 by omega) (by decide) (h1 5 (by decide)), h.g 1 (by decide) (show l < 14 by omega) (by decide) (h1 7 (by decide))⟩
  have kp : ∀ x, x < 54 → (zi_kept 6 x b ↔ zi_kept 6 x a) := fun x hx => by unfold zi_kept; rw [e6 x hx 0 (Or.inl rfl)]
  have on : ∀ x l, x < 54 → l < 8 → (zi_on 6 x l b ↔ zi_on 6 x l a) := fun x l hx hl => by
    unfold zi_on
    simp only [Nat.reduceAdd]
    rw [e8 x hx l (by omega)]
  have tr : ∀ l, l < 8 → zi_tr 6 l a → zi_tr 6 l b := fun l hl ht => by
    obtain ⟨q3, q5, q7⟩ := e1 l hl
    unfold zi_tr at ht ⊢
    simp only [Nat.reduceAdd] at ht ⊢
    rw [e10 l hl 0 (by decide), e10 l hl 1 (by decide), e10 l hl 2 (by decide), q3, q5, q7]
    exact ht
  refine ⟨fun x hx hk => ?_, fun x y hx hy hne hkx hky l hl hox hoy => ?_⟩
  · obtain ⟨p1, p2, ⟨n, q1, q2, q3, q4, q5⟩, p4⟩ := H.1 x hx ((kp x hx).mp hk)
    have stp : ∀ i, i < n → zz_g (6 + 1) (nI x) (nI i) b = zz_g (6 + 1) (nI x) (nI i) a := fun i hi => e7 x hx i (by omega)
    refine ⟨by rw [e6 x hx 0 (Or.inl rfl)]; exact p1, by rw [e6 x hx 2 (Or.inr (Or.inr rfl))]; exact p2, ⟨n, by rw [e6 x hx 1 (Or.inr (Or.inl rfl))]; exact q1, q2, fun i hi => by rw [stp i hi]; exact q3 i hi, fun i l hi hl8 e => (on x l hx hl8).mpr (q4 i l hi hl8 (by rw [← stp i hi]; exact e)), fun l hl8 ho => ?_⟩, fun l hl8 ho => tr l hl8 (p4 l hl8 ((on x l hx hl8).mp ho))⟩
    obtain ⟨i, hi, e⟩ := q5 l hl8 ((on x l hx hl8).mp ho)
    exact ⟨i, hi, by rw [stp i hi]; exact e⟩
  · have := H.2 x y hx hy hne ((kp x hx).mp hkx) ((kp y hy).mp hky) l hl ((on x l hx hl).mp hox) ((on y l hy hl).mp hoy)
    unfold zi_lim zi_gap at this ⊢
    simp only [Nat.reduceAdd] at this ⊢
    rw [e6 x hx 0 (Or.inl rfl), e6 y hy 0 (Or.inl rfl), e8 x hx l (by omega), e8 y hy l (by omega), e9 x hx l (by omega), e9 y hy l (by omega), e10 l hl 0 (by decide), e10 l hl 1 (by decide), e10 l hl 2 (by decide)]
    exact this
/-! TRAINS, by rows -/
theorem zi_clash_symm {i j : Nat} {st : zz_T} (h : zi_clash i j st) : zi_clash j i st := by
  obtain ⟨h1, h2, h3, h4⟩ := h
  refine ⟨h2, h1, h3.symm, ?_⟩
  by_cases q : zz_g 16 (nI i) 11 st = zz_g 16 (nI j) 11 st
  · rw [if_pos q] at h4
    rw [if_pos q.symm]
    exact h4.symm
  · rw [if_neg q] at h4
    rw [if_neg (fun e => q e.symm), ← h3]
    exact h4
abbrev zt_same (i : Nat) (a b : zz_T) : Prop := zz_g 16 (nI i) 2 b = zz_g 16 (nI i) 2 a ∧ zz_g 16 (nI i) 3 b = zz_g 16 (nI i) 3 a ∧ zz_g 16 (nI i) 4 b = zz_g 16 (nI i) 4 a ∧ zz_g 16 (nI i) 10 b = zz_g 16 (nI i) 10 a ∧ zz_g 16 (nI i) 11 b = zz_g 16 (nI i) 11 a ∧ zz_g 16 (nI i) 12 b = zz_g 16 (nI i) 12 a
theorem zi_T1_same {i : Nat} {a b : zz_T} (e : zt_same i a b) (h : zi_T1 i a) : zi_T1 i b := by
  obtain ⟨e2, e3, e4, e10, e11, e12⟩ := e
  unfold zi_T1 zi_how at h ⊢
  rw [e2, e3, e4, e10, e12]
  exact h
theorem zi_T_ext {a b : zz_T} {T T' : Nat} (i0 : Nat) (hT : ∀ i, i < T' → i ≠ i0 → i < T) (h : ∀ i, i < T → i ≠ i0 → zt_same i a b) (h1 : ∀ l, l < 8 → zz_g 1 (nI l) 5 b = zz_g 1 (nI l) 5 a) (hn : i0 < T' → zi_T1 i0 b ∧ ∀ j, j < T' → j ≠ i0 → ¬ zi_clash i0 j b) (H : zi_T T a) : zi_T T' b := by
  refine ⟨fun i hi => ?_, fun i j hi hj hne hc => ?_⟩
  · by_cases q : i = i0
    · subst q; exact (hn hi).1
    · exact zi_T1_same (h i (hT i hi q) q) (H.1 i (hT i hi q))
  · by_cases q : i = i0
    · subst q; exact (hn hi).2 j hj (fun e => hne e.symm) hc
    · by_cases q' : j = i0
      · subst q'; exact (hn hj).2 i hi q (zi_clash_symm hc)
      · obtain ⟨e2, e3, e4, e10, e11, e12⟩ := h i (hT i hi q) q
        obtain ⟨f2, f3, f4, f10, f11, f12⟩ := h j (hT j hj q') q'
        refine H.2 i j (hT i hi q) (hT j hj q') hne ?_
        unfold zi_clash zi_how at hc ⊢
        rw [e2, e3, e4, e11, f2, f3, f4, f11] at hc
        obtain ⟨c1, c2, c3, c4⟩ := hc
        obtain ⟨⟨l, hl, el⟩, -⟩ := (H.1 i (hT i hi q)).2.1 c1
        rw [el, h1 l hl] at c4
        refine ⟨c1, c2, c3, ?_⟩
        rw [el]
        exact c4
theorem zq_same {d : Nat → List Int32} {ks : List Nat} {a b : zz_T} (h : zq d ks a b) (h16 : zqn [2, 3, 4, 10, 11, 12] (d 16)) {i : Nat} (hi : i < 60) : zt_same i a b :=
  ⟨h.g 16 (by decide) (show i < zp_R 16 from hi) (by decide) (h16 2 (by decide)), h.g 16 (by decide) (show i < zp_R 16 from hi) (by decide) (h16 3 (by decide)), h.g 16 (by decide) (show i < zp_R 16 from hi) (by decide) (h16 4 (by decide)), h.g 16 (by decide) (show i < zp_R 16 from hi) (by decide) (h16 10 (by decide)), h.g 16 (by decide) (show i < zp_R 16 from hi) (by decide) (h16 11 (by decide)), h.g 16 (by decide) (show i < zp_R 16 from hi) (by decide) (h16 12 (by decide))⟩
theorem zq_1 {d : Nat → List Int32} {ks : List Nat} {a b : zz_T} (h : zq d ks a b) (h1 : zqn [5] (d 1)) {l : Nat} (hl : l < 8) : zz_g 1 (nI l) 5 b = zz_g 1 (nI l) 5 a := h.g 1 (by decide) (show l < 14 by omega) (by decide) (h1 5 (by decide))
theorem zq_T {d : Nat → List Int32} {ks : List Nat} {a b : zz_T} {T : Nat} (hT : T ≤ 60) (h : zq d ks a b) (h16 : zqn [2, 3, 4, 10, 11, 12] (d 16)) (h1 : zqn [5] (d 1)) (H : zi_T T a) : zi_T T b :=
  zi_T_ext T (fun i hi _ => hi) (fun i hi _ => zq_same h h16 (by omega)) (fun l hl => zq_1 h h1 hl) (fun q => absurd q (Nat.lt_irrefl _)) H
theorem zi_fg_same {s i : Nat} {a b : zz_T} (e : zt_same i a b) : zi_fg s b i = zi_fg s a i := by
  obtain ⟨e2, e3, e4, e10, e11, e12⟩ := e
  unfold zi_fg zi_how
  rw [e2, e3, e12]
theorem zi_fu_same {s i : Nat} {a b : zz_T} (e : zt_same i a b) : zi_fu s b i = zi_fu s a i := by
  obtain ⟨e2, e3, e4, e10, e11, e12⟩ := e
  unfold zi_fu zi_how
  rw [e2, e3]
theorem zi_G_ext {a b : zz_T} {T : Nat} {i0 : Nat} (hi : i0 < T) (h : ∀ i, i < T → i ≠ i0 → zt_same i a b) (hg : ∀ s, s < 6 → zp_s (zi_fg s a) 0 T + zi_fg s b i0 ≤ 5 + zi_fg s a i0 ∧ zp_s (zi_fu s a) 0 T + zi_fu s b i0 ≤ 2 + zi_fu s a i0) : zi_G T b := by
  intro s hs
  obtain ⟨g1, g2⟩ := hg s hs
  have u1 := zp_s_upd (f := zi_fg s a) (g := zi_fg s b) (j := i0) T 0 (Nat.zero_le _) (by omega) (fun i hne _ hi2 => zi_fg_same (h i (by omega) hne))
  have u2 := zp_s_upd (f := zi_fu s a) (g := zi_fu s b) (j := i0) T 0 (Nat.zero_le _) (by omega) (fun i hne _ hi2 => zi_fu_same (h i (by omega) hne))
  omega
theorem zq_G {d : Nat → List Int32} {ks : List Nat} {a b : zz_T} {T : Nat} (hT : T ≤ 60) (h : zq d ks a b) (h16 : zqn [2, 3, 4, 10, 11, 12] (d 16)) (H : zi_G T a) : zi_G T b := by
  intro s hs
  rw [zp_s_congr T 0 (fun i _ hi => zi_fg_same (s := s) (zq_same h h16 (i := i) (by omega))), zp_s_congr T 0 (fun i _ hi => zi_fu_same (s := s) (zq_same h h16 (i := i) (by omega)))]
  exact H s hs
abbrev ze_h (st : zz_T) : Nat → Nat := fun i => zp_b (zi_how i st ≠ 3)
abbrev ze_b (st : zz_T) : Nat → Nat := fun i => zp_b (zz_g 16 (nI i) 15 st ≠ -1)
theorem zq_E {d : Nat → List Int32} {ks : List Nat} {a b : zz_T} {T : Nat} (hT : T ≤ 60) (h : zq d ks a b) (h0 : zqn [2] (d 0)) (h16 : zqn [2, 15] (d 16)) (H : zi_E T a) : zi_E T b := by
  obtain ⟨m, m1, m2⟩ := H
  refine ⟨m, fun s hs => ?_, ?_⟩
  · rw [h.g 0 (by decide) (show s < 10 by omega) (by decide) (h0 2 (by decide))]; exact m1 s hs
  · have c1 : zp_s (ze_h b) 0 T = zp_s (ze_h a) 0 T := zp_s_congr T 0 (fun i _ hi => by unfold ze_h zi_how; rw [h.g 16 (by decide) (show i < 60 by omega) (by decide) (h16 2 (by decide))])
    have c2 : zp_s (ze_b b) 0 T = zp_s (ze_b a) 0 T := zp_s_congr T 0 (fun i _ hi => by unfold ze_b; rw [h.g 16 (by decide) (show i < 60 by omega) (by decide) (h16 15 (by decide))])
    show zp_s m 0 6 + zp_s (ze_h b) 0 T + zp_s (ze_b b) 0 T ≤ 24
    rw [c1, c2]
    exact m2
theorem zi_D_mono {a b : zz_T} {T : Nat} (h : ∀ i, i < T → zi_how i b ≠ 3 → zi_how i a ≠ 3 ∧ zz_g 16 (nI i) 0 b = zz_g 16 (nI i) 0 a ∧ zz_g 16 (nI i) 14 b = zz_g 16 (nI i) 14 a) (h1 : ∀ i, i < T → zi_how i b ≠ 3 → zi_D1 i a → zi_D1 i b) (H : zi_D T a) : zi_D T b := by
  refine ⟨fun i hi hh => h1 i hi hh (H.1 i hi (h i hi hh).1), fun i j hi hj hne hhi hhj => ?_⟩
  obtain ⟨p1, p2, p3⟩ := h i hi hhi
  obtain ⟨q1, q2, q3⟩ := h j hj hhj
  rw [p2, p3, q2, q3]
  exact H.2 i j hi hj hne p1 q1
theorem zi_D1_mono {a b : zz_T} {i : Nat} (h0 : zz_g 16 (nI i) 0 b = zz_g 16 (nI i) 0 a) (h14 : zz_g 16 (nI i) 14 b = zz_g 16 (nI i) 14 a) (h : ∀ u l g, u < 6 → l < 8 → zz_g 16 (nI i) 0 a = nI u → zz_g 16 (nI i) 14 a = nI (8 * u + l) → zz_g 4 (nI u) 7 a = nI g → g ≤ 8 → l < g → zz_g 5 (nI (8 * u + l)) 0 a = 0 → (∃ g', zz_g 4 (nI u) 7 b = nI g' ∧ g' ≤ 8 ∧ l < g') ∧ zz_g 5 (nI (8 * u + l)) 0 b = 0) (H : zi_D1 i a) : zi_D1 i b := by
  rcases H with ⟨p1, w, hw, p2⟩ | ⟨u, l, g, hu, hl, q1, q2, q3, q4, q5, q6⟩
  · exact Or.inl ⟨by rw [h0]; exact p1, w, hw, by rw [h14]; exact p2⟩
  · obtain ⟨⟨g', r1, r2, r3⟩, r4⟩ := h u l g hu hl q1 q2 q3 q4 q5 q6
    exact Or.inr ⟨u, l, g', hu, hl, by rw [h0]; exact q1, by rw [h14]; exact q2, r1, r2, r3, r4⟩
theorem zq_D {d : Nat → List Int32} {ks : List Nat} {a b : zz_T} {T : Nat} (hT : T ≤ 60) (h : zq d ks a b) (h16 : zqn [0, 2, 14] (d 16)) (h4 : zqn [7] (d 4)) (h5 : zqn [0] (d 5)) (H : zi_D T a) : zi_D T b := by
  have e0 : ∀ i, i < T → zz_g 16 (nI i) 0 b = zz_g 16 (nI i) 0 a := fun i hi => h.g 16 (by decide) (show i < 60 by omega) (by decide) (h16 0 (by decide))
  have e2 : ∀ i, i < T → zz_g 16 (nI i) 2 b = zz_g 16 (nI i) 2 a := fun i hi => h.g 16 (by decide) (show i < 60 by omega) (by decide) (h16 2 (by decide))
  have e14 : ∀ i, i < T → zz_g 16 (nI i) 14 b = zz_g 16 (nI i) 14 a := fun i hi => h.g 16 (by decide) (show i < 60 by omega) (by decide) (h16 14 (by decide))
  refine zi_D_mono (fun i hi hh => ⟨by unfold zi_how at hh ⊢; rw [← e2 i hi]; exact hh, e0 i hi, e14 i hi⟩) (fun i hi _ hd => zi_D1_mono (e0 i hi) (e14 i hi) (fun u l g hu hl _ _ q3 q4 q5 q6 => ⟨⟨g, ?_, q4, q5⟩, ?_⟩) hd) H
  · rw [h.g 4 (by decide) (show u < zp_R 4 from hu) (by decide) (h4 7 (by decide))]; exact q3
  · rw [h.g 5 (by decide) (show 8 * u + l < 48 by omega) (by decide) (h5 0 (by decide))]; exact q6
/-- what may change without anything of it -/
def zq0 : Nat → List Int32
  | 0 => [3, 4]
  | 1 => [4, 6]
  | 2 => zqw
  | 3 => zqw
  | 4 => [4, 5, 10, 11, 12]
  | 5 => [2]
  | 6 => []
  | 7 => []
  | 8 => []
  | 9 => []
  | 10 => []
  | 11 => zqw
  | 12 => zqw
  | 13 => zqw
  | 14 => zqw
  | 15 => zqw
  | 16 => [1, 5, 6, 7, 8, 9, 13]
  | 17 => zqw
  | 18 => [1, 2]
  | 19 => [1, 2, 3, 4, 5, 6, 7, 8, 9, 10, 11, 12]
  | 20 => zqw
  | 21 => [1]
  | 22 => zqw
  | _ => []
theorem zq_N {d : Nat → List Int32} {ks : List Nat} {a b : zz_T} {e T : Nat} (h : zq d ks a b) (hk : ∀ k ∈ [0, 2, 3, 4, 5, 6, 7], k ∉ ks) (H : zi_N e T a) : zi_N e T b := by
  unfold zi_N at H ⊢
  rw [h.2 0 (hk 0 (by decide)), h.2 2 (hk 2 (by decide)), h.2 3 (hk 3 (by decide)), h.2 4 (hk 4 (by decide)), h.2 5 (hk 5 (by decide)), h.2 6 (hk 6 (by decide)), h.2 7 (hk 7 (by decide))]
  exact H
theorem zq_I {f : Nat → Int32} {a b : zz_T} {e T : Nat} (h : zq zq0 [] a b) (h3 : zp_all 3 (zp_li 8) b) (H : zi_I f e T a) : zi_I f e T b := by
  obtain ⟨hN, hL, hU, hX, hS, hK, hP, hT, hG, hE, hD⟩ := H
  have h60 := hN.2.2.2.2.1
  exact ⟨zq_N h (by decide) hN, zq_L h (by decide) (by decide) h3 hL, zq_U h (by decide) rfl hU, zq_X h (by decide) (by decide) hX, zq_S h (by decide) (by decide) hS, zq_K h (by decide) (by decide) (by decide) hK, zq_P h (by decide) rfl rfl rfl rfl (by decide) hP, zq_T h60 h (by decide) (by decide) hT, zq_G h60 h (by decide) hG, zq_E h60 h (by decide) (by decide) hE, zq_D h60 h (by decide) (by decide) (by decide) hD⟩
