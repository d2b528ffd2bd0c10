/-! PURE: standing TRAINS; a MOVE whole; what a TRAIN leaves behind -/
def zm_blk (l : Nat) (k : Bool) (s : zz_T) : Int32 := if k = true then 0 else zz_g 1 (nI l) 2 s - 1
theorem zm_go {i l : Nat} (i60 : i < 60) (k : Bool) (s : zz_T) : ∃ b, b = zX6_stay_128 (nI i) (nI l) k s ∧ zm_R i s b ∧ zi_how i b = 1 ∧ zz_g 16 (nI i) 3 b = nI l ∧ zz_g 16 (nI i) 11 b = zz_b k ∧ zz_g 16 (nI i) 4 b = zm_blk l k s ∧ ∀ c : Int32, 0 ≤ c ∧ c < 16 → c ≠ 2 → c ≠ 3 → c ≠ 4 → c ≠ 5 → c ≠ 8 → c ≠ 11 → zz_g 16 (nI i) c b = zz_g 16 (nI i) c s := by
  obtain ⟨s7, e7⟩ : ∃ s7, s7 = zz_set 16 (nI i) 11 (zz_b k) (zz_set 16 (nI i) 3 (nI l) (zz_set 16 (nI i) 2 1 s)) := ⟨_, rfl⟩
  have l7 : zz_g 1 (nI l) 2 s7 = zz_g 1 (nI l) 2 s := by rw [e7, zp_gn (by decide), zp_gn (by decide), zp_gn (by decide)]
  have eb : zX6_stay_128 (nI i) (nI l) k s = zX6_enter (nI i) (nI l) (zm_blk l k s) s7 := by
    cases k with
    | true => rw [e7]; rfl
    | false =>
      have : zm_blk l false s = zX1_getLine (nI l) 2 s7 - 1 := by rw [show zX1_getLine (nI l) 2 s7 = zz_g 1 (nI l) 2 s from l7]; rfl
      rw [this, e7]
      rfl
  obtain ⟨R, a4, ac⟩ := zm_enter i60 (nI l) (zm_blk l k s) s7
  have R7 : zm_R i s s7 := by rw [e7]; exact ((zm_rf.set i60 (by decide)).set i60 (by decide)).set i60 (by decide)
  refine ⟨_, rfl, ?_⟩
  rw [eb]
  refine ⟨R7.trans R, ?_, ?_, ?_, a4, fun c hc h2 h3 h4 h5 h8 h11 => ?_⟩
  · unfold zi_how
    rw [ac 2 (by decide) (by decide) (by decide) (by decide), e7, zg16 i60 i60 (by decide) (by decide), if_neg (fun q => absurd q.2 (by decide)), zg16 i60 i60 (by decide) (by decide), if_neg (fun q => absurd q.2 (by decide)), zg16 i60 i60 (by decide) (by decide), if_pos ⟨rfl, rfl⟩]
  · rw [ac 3 (by decide) (by decide) (by decide) (by decide), e7, zg16 i60 i60 (by decide) (by decide), if_neg (fun q => absurd q.2 (by decide)), zg16 i60 i60 (by decide) (by decide), if_pos ⟨rfl, rfl⟩]
  · rw [ac 11 (by decide) (by decide) (by decide) (by decide), e7, zg16 i60 i60 (by decide) (by decide), if_pos ⟨rfl, rfl⟩]
  · rw [ac c hc h4 h5 h8, e7, zg16 i60 i60 (by decide) hc, if_neg (fun q => h11 q.2), zg16 i60 i60 (by decide) hc, if_neg (fun q => h3 q.2), zg16 i60 i60 (by decide) hc, if_neg (fun q => h2 q.2)]
def zm_V (T l : Nat) (k : Bool) (s : zz_T) : Prop := ∀ j, j < T → zi_how j s = 1 → zz_g 16 (nI j) 3 s = nI l → (zz_g 16 (nI j) 11 s = zz_b k → zz_g 16 (nI j) 4 s ≠ zm_blk l k s) ∧ (zz_g 16 (nI j) 11 s ≠ zz_b k → zz_g 1 (nI l) 5 s = 1)
theorem zm_line {T l : Nat} {s : zz_T} (h5 : s.2 5 = nI T) (h60 : T ≤ 60) (k : Bool) : zp_ok (zX6_waitAtStation_128 (nI l) (zX1_isDouble (nI l) s) k s) (fun w => w = 0 → zm_V T l k s) := by
  have go : zp_ok (zX6_waitAtStation_149 (nI l) (zX1_isDouble (nI l) s) k (zm_blk l k s) s) (fun w => w = 0 → zm_V T l k s) := by
    unfold zX6_waitAtStation_149
    refine (zr_isTaken h5 h60 _ _ _ _).bind (fun r hr => zp_ite (fun _ => .ret (fun q => absurd q (by decide))) (fun hf => ?_))
    have hr' := hr (by cases r <;> simp_all)
    refine zp_ite (fun hd => .ret (fun _ j hj hh e3 => ⟨fun e11 e4 => (hr' j hj hh e3 e4).2 e11, fun _ => (zb_double _ _).mp hd⟩)) (fun hd => ?_)
    refine (zr_isComing h5 h60 _ _).bind (fun r2 hr2 => zp_ite (fun _ => .ret (fun q => absurd q (by decide))) (fun hf2 => .ret (fun _ j hj hh e3 => ⟨fun e11 e4 => (hr' j hj hh e3 e4).2 e11, fun n11 => absurd (hr2 (by cases r2 <;> simp_all) j hj hh e3) n11⟩)))
  unfold zX6_waitAtStation_128
  cases k with
  | true => rw [if_pos (show zz_b true = 1 from rfl)]; exact go
  | false => rw [if_neg (show ¬ zz_b false = 1 by decide)]; exact go
theorem zm_out {f : Nat → Int32} {e T i l : Nat} {s : zz_T} (hi : i < T) (hl : l < 8) (H : zi_I f e T s) (h0 : zi_how i s = 0) (k : Bool) (hV : zm_V T l k s) : zi_I f e T (zX6_stay_128 (nI i) (nI l) k s) ∧ zp_F [1, 16] [] s (zX6_stay_128 (nI i) (nI l) k s) := by
  have h60 := H.1.2.2.2.2.1
  have hT1 := H.2.2.2.2.2.2.2.1.1 i hi
  obtain ⟨b, eb, R, b2, b3, b11, b4, bc⟩ := zm_go (l := l) (show i < 60 by omega) k s
  rw [← eb]
  refine ⟨zm_row hi H R (bc 0 (by decide) (by decide) (by decide) (by decide) (by decide) (by decide) (by decide)) (bc 14 (by decide) (by decide) (by decide) (by decide) (by decide) (by decide) (by decide)) (bc 15 (by decide) (by decide) (by decide) (by decide) (by decide) (by decide) (by decide)) (by rw [h0]; decide) ⟨⟨1, by decide, b2⟩, fun _ => ⟨⟨l, hl, b3⟩, ?_⟩, fun q => absurd b2 q, fun q => ?_, ?_, ?_⟩ (fun j hj hne hc => ?_) (fun y hy => ?_), R.1⟩
  · rw [b4]
    unfold zm_blk
    obtain ⟨-, -, ⟨B, hB1, hB5, eB⟩, -⟩ := H.2.1.2.1 l hl
    cases k with
    | true => rw [if_pos rfl]; decide
    | false =>
      obtain ⟨C, rfl⟩ : ∃ C, B = C + 1 := ⟨B - 1, by omega⟩
      rw [if_neg (by decide), eB, nI_pred]
      exact nI_pos' (by omega)
  · rw [b2] at q; rcases q with q | q <;> exact absurd q (by decide)
  · rw [bc 12 (by decide) (by decide) (by decide) (by decide) (by decide) (by decide) (by decide)]; exact hT1.2.2.2.2.1
  · rw [bc 10 (by decide) (by decide) (by decide) (by decide) (by decide) (by decide) (by decide)]; exact hT1.2.2.2.2.2
  · obtain ⟨p1, p2, p3, p4⟩ := hc
    obtain ⟨f2, f3, f4, f10, f11, f12⟩ := R.same (j := j) (by omega) hne
    unfold zi_how at p2
    rw [f2] at p2
    rw [b3, f3] at p3
    rw [b11, f11, b4, f4, b3, zq_1 R.q (by decide) hl] at p4
    obtain ⟨v1, v2⟩ := hV j hj p2 p3.symm
    by_cases w : zz_b k = zz_g 16 (nI j) 11 s
    · rw [if_pos w] at p4
      exact v1 w.symm p4.symm
    · rw [if_neg w] at p4
      exact p4 (v2 (fun z => w z.symm))
  · obtain ⟨z1, z2⟩ := zm_fg0 (i := i) (s := y) (b := b) (Or.inl b2)
    have G := H.2.2.2.2.2.2.2.2.1 y hy
    omega
theorem zm_unload {f : Nat → Int32} {e T i x : Nat} {v : Int32} {s : zz_T} (hi : i < T) (hx : x < 6) (H : zi_I f e T s) (h0 : zi_how i s = 0) (h3 : zz_g 16 (nI i) 3 s = nI x) (hU : zp_s (zi_fu x s) 0 T ≤ 1) : zi_I f e T (zz_set 16 (nI i) 5 v (zz_set 16 (nI i) 2 2 s)) ∧ zp_F [1, 16] [] s (zz_set 16 (nI i) 5 v (zz_set 16 (nI i) 2 2 s)) := by
  have h60 := H.1.2.2.2.2.1
  have i60 : i < 60 := by omega
  obtain ⟨t1, t2, t3, t4, t5, t6⟩ := H.2.2.2.2.2.2.2.1.1 i hi
  obtain ⟨b, eb⟩ : ∃ b, b = zz_set 16 (nI i) 5 v (zz_set 16 (nI i) 2 2 s) := ⟨_, rfl⟩
  rw [← eb]
  have R : zm_R i s b := by rw [eb]; exact (zm_rf.set i60 (by decide)).set i60 (by decide)
  have b2 : zi_how i b = 2 := by
    unfold zi_how
    rw [eb, zg16 i60 i60 (by decide) (by decide), if_neg (fun q => absurd q.2 (by decide)), zg16 i60 i60 (by decide) (by decide), if_pos ⟨rfl, rfl⟩]
  have bc : ∀ c : Int32, 0 ≤ c ∧ c < 16 → c ≠ 2 → c ≠ 5 → zz_g 16 (nI i) c b = zz_g 16 (nI i) c s := fun c hc n2 n5 => by
    rw [eb, zg16 i60 i60 (by decide) hc, if_neg (fun q => n5 q.2), zg16 i60 i60 (by decide) hc, if_neg (fun q => n2 q.2)]
  have c3 := bc 3 (by decide) (by decide) (by decide)
  have c12 := bc 12 (by decide) (by decide) (by decide)
  refine ⟨zm_row hi H R (bc 0 (by decide) (by decide) (by decide)) (bc 14 (by decide) (by decide) (by decide)) (bc 15 (by decide) (by decide) (by decide)) (by rw [h0]; decide) ⟨⟨2, by decide, b2⟩, fun q => absurd (b2.symm.trans q) (by decide), fun _ => ?_, fun _ => ⟨x, hx, c3.trans h3⟩, by rw [c12]; exact t5, ?_⟩ (fun j hj hne hc => absurd (b2.symm.trans hc.1) (by decide)) (fun y hy => ?_), R.1⟩
  · rw [bc 4 (by decide) (by decide) (by decide)]; exact t3 (by rw [h0]; decide)
  · rw [bc 10 (by decide) (by decide) (by decide)]; exact t6
  · have G := H.2.2.2.2.2.2.2.2.1 y hy
    have e1 : zi_fg y b i = zi_fg y s i := by
      unfold zi_fg
      rw [b2, h0, c3, c12]
      by_cases w : zz_g 16 (nI i) 3 s = nI y ∧ ¬ zz_g 16 (nI i) 12 s = nI y
      · rw [zp_b1 ⟨Or.inr rfl, w⟩, zp_b1 ⟨Or.inl rfl, w⟩]
      · rw [zp_b0 (fun z => w z.2), zp_b0 (fun z => w z.2)]
    rw [e1]
    by_cases q : y = x
    · rw [q] at G ⊢
      have : zi_fu x b i ≤ 1 := zp_ble
      omega
    · have : zi_fu y b i = 0 := zp_b0 (fun z => by
        have := z.2
        rw [c3, h3] at this
        exact q ((nI_eq (by omega) (by omega)).mp this).symm)
      omega
theorem zm_stand {f : Nat → Int32} {e T i : Nat} {s : zz_T} (hi : i < T) (H : zi_I f e T s) (h0 : zi_how i s = 0) : zp_ok (zX6_waitAtStation (nI i) s) (fun w => w = 0 → zi_I f e T (zX6_stay (nI i) true s) ∧ zp_F [1, 16] [] s (zX6_stay (nI i) true s)) := by
  have h60 := H.1.2.2.2.2.1
  have h5 := H.1.2.2.2.1
  obtain ⟨x, hx, e3⟩ := (H.2.2.2.2.2.2.2.1.1 i hi).2.2.2.1 (Or.inl h0)
  have est : zX6_stay (nI i) true s = if zz_g 16 (nI i) 6 s ≤ 0 then (if zz_g 16 (nI i) 3 s = zz_g 16 (nI i) 9 s then zz_set 16 (nI i) 5 (zz_g 16 (nI i) 13 (zz_set 16 (nI i) 2 2 s)) (zz_set 16 (nI i) 2 2 s) else zX6_stay_89 (nI i) true (zz_g 16 (nI i) 3 s) s) else zz_add 16 (nI i) 6 (-1) s := rfl
  have e89 : zX6_stay_89 (nI i) true (zz_g 16 (nI i) 3 s) s = if zX1_getLine (zX1_firstOf (zz_g 16 (nI i) 3 s) (zz_g 16 (nI i) 9 s) s) 0 s = zz_g 16 (nI i) 3 s then zX6_stay_128 (nI i) (zX1_firstOf (zz_g 16 (nI i) 3 s) (zz_g 16 (nI i) 9 s) s) true s else zX6_stay_128 (nI i) (zX1_firstOf (zz_g 16 (nI i) 3 s) (zz_g 16 (nI i) 9 s) s) false s := rfl
  rw [est]
  unfold zX6_waitAtStation
  simp only [zz_v]
  refine zp_ite (fun hr => ?_) (fun _ => .ret (fun q => absurd q (by decide)))
  rw [if_pos hr]
  refine zp_ite (fun hg => ?_) (fun hg => ?_)
  · rw [if_pos hg, e3, zr_countUnloading h5 h60 x, show zX1_getStation (nI x) 0 s = 2 from (H.2.1.1 x hx).1]
    show zp_ok (if (2 : Int32) ≤ nI _ then some 4 else some 0) _
    refine zp_ite (fun _ => .ret (fun q => absurd q (by decide))) (fun hU => .ret (fun _ => zm_unload hi hx H h0 e3 ?_))
    have hb := zp_s_bd (f := zi_fu x s) (c := 1) T 0 (fun _ _ _ => zp_ble)
    have : ¬ nI 2 ≤ nI (zp_s (zi_fu x s) 0 T) := hU
    rw [nI_leI (by decide) (by omega)] at this
    omega
  · rw [if_neg hg, e89]
    refine zp_ite (fun _ => ?_) (fun _ => .ret (fun q => absurd q (by decide)))
    have hw : zp_li 8 (zX1_firstOf (zz_g 16 (nI i) 3 s) (zz_g 16 (nI i) 9 s) s) := H.2.1.2.2.g ze_li0 _ _
    obtain ⟨w, ew⟩ : ∃ w, w = zX1_firstOf (zz_g 16 (nI i) 3 s) (zz_g 16 (nI i) 9 s) s := ⟨_, rfl⟩
    rw [← ew] at hw ⊢
    refine zp_ite (fun _ => .ret (fun q => absurd q (by decide))) (fun hw1 => ?_)
    obtain ⟨l, hl, rfl⟩ := hw.resolve_left hw1
    by_cases hn : zX1_getLine (nI l) 0 s = zz_g 16 (nI i) 3 s
    · rw [if_pos hn, if_pos hn]
      exact (zm_line h5 h60 true).mono (fun w hw q => zm_out hi hl H h0 true (hw q))
    · rw [if_neg hn, if_neg hn]
      exact (zm_line h5 h60 false).mono (fun w hw q => zm_out hi hl H h0 false (hw q))
theorem zm_stay {f : Nat → Int32} {e T i : Nat} {s : zz_T} (hi : i < T) (H : zi_I f e T s) : zi_I f e T (zX6_stay (nI i) false s) ∧ zp_F [1, 16] [] s (zX6_stay (nI i) false s) := by
  have h60 := H.1.2.2.2.2.1
  have est : zX6_stay (nI i) false s = if zz_g 16 (nI i) 6 s ≤ 0 then s else zz_add 16 (nI i) 6 (-1) s := rfl
  rw [est]
  exact zp_if (fun x => zi_I f e T x ∧ zp_F [1, 16] [] s x) (fun _ => ⟨H, .rfl⟩) (fun _ => ⟨zi_I_set (t := 16) (by decide) (show i < 60 by omega) (by decide) (by decide) H, zp_F.rfl.add (by decide)⟩)
/-- a MOVE -/
def zi_E23 (T : Nat) (st : zz_T) : Prop := ∃ m : Nat → Nat, (∀ s, s < 6 → zz_g 0 (nI s) 2 st = nI (m s)) ∧ zp_s m 0 6 + zp_s (ze_h st) 0 T + zp_s (ze_b st) 0 T ≤ 23
def zm_D (T i : Nat) (b : zz_T) : Prop := zi_how i b = 3 ∧ zi_D1 i b ∧ (∀ j, j < T → zi_how j b ≠ 3 → zz_g 16 (nI j) 0 b ≠ -1 → zz_g 16 (nI i) 0 b ≠ -1 → zz_g 16 (nI j) 14 b ≠ zz_g 16 (nI i) 14 b) ∧ zi_E23 T b
def zm_Q (f : Nat → Int32) (e T i : Nat) (s : zz_T) (p : Bool × zz_T) : Prop := (zi_I f e T p.2 ∧ zp_F [1, 16] [] s p.2) ∧ (p.1 = true → zm_D T i p.2)
theorem zm_done {f : Nat → Int32} {e T i : Nat} {s : zz_T} (hi : i < T) (H : zi_I f e T s) (h2 : zi_how i s = 2) : zm_Q f e T i s (true, zz_set 16 (nI i) 3 (-1) (zz_set 16 (nI i) 2 3 s)) := by
  have h60 := H.1.2.2.2.2.1
  have i60 : i < 60 := by omega
  have hn3 : zi_how i s ≠ 3 := by rw [h2]; decide
  obtain ⟨t1, t2, t3, t4, t5, t6⟩ := H.2.2.2.2.2.2.2.1.1 i hi
  obtain ⟨b, eb⟩ : ∃ b, b = zz_set 16 (nI i) 3 (-1) (zz_set 16 (nI i) 2 3 s) := ⟨_, rfl⟩
  rw [← eb]
  have R : zm_R i s b := by rw [eb]; exact (zm_rf.set i60 (by decide)).set i60 (by decide)
  have b2 : zi_how i b = 3 := by
    unfold zi_how
    rw [eb, zg16 i60 i60 (by decide) (by decide), if_neg (fun q => absurd q.2 (by decide)), zg16 i60 i60 (by decide) (by decide), if_pos ⟨rfl, rfl⟩]
  have bc : ∀ c : Int32, 0 ≤ c ∧ c < 16 → c ≠ 2 → c ≠ 3 → zz_g 16 (nI i) c b = zz_g 16 (nI i) c s := fun c hc n2 n5 => by
    rw [eb, zg16 i60 i60 (by decide) hc, if_neg (fun q => n5 q.2), zg16 i60 i60 (by decide) hc, if_neg (fun q => n2 q.2)]
  have c0 := bc 0 (by decide) (by decide) (by decide)
  have c14 := bc 14 (by decide) (by decide) (by decide)
  have c15 := bc 15 (by decide) (by decide) (by decide)
  refine ⟨⟨zm_row hi H R c0 c14 c15 hn3 ⟨⟨3, by decide, b2⟩, fun q => absurd (b2.symm.trans q) (by decide), fun _ => ?_, fun q => ?_, ?_, ?_⟩ (fun j hj hne hc => absurd (b2.symm.trans hc.1) (by decide)) (fun y hy => ?_), R.1⟩, fun _ => ⟨b2, ?_, fun j hj hh h0j h0i => ?_, ?_⟩⟩
  · rw [bc 4 (by decide) (by decide) (by decide)]; exact t3 (by rw [h2]; decide)
  · rw [b2] at q; rcases q with q | q <;> exact absurd q (by decide)
  · rw [bc 12 (by decide) (by decide) (by decide)]; exact t5
  · rw [bc 10 (by decide) (by decide) (by decide)]; exact t6
  · obtain ⟨z1, z2⟩ := zm_fg0 (i := i) (s := y) (b := b) (Or.inr b2)
    have G := H.2.2.2.2.2.2.2.2.1 y hy
    show zp_s (zi_fg y s) 0 T + zi_fg y b i ≤ 5 + zi_fg y s i ∧ zp_s (zi_fu y s) 0 T + zi_fu y b i ≤ 2 + zi_fu y s i
    omega
  · exact zi_D1_mono c0 c14 (fun u l g hu hl _ _ q3 q4 q5 q6 => ⟨⟨g, by rw [R.1.g (by decide)]; exact q3, q4, q5⟩, by rw [R.1.g (by decide)]; exact q6⟩) (H.2.2.2.2.2.2.2.2.2.2.1 i hi hn3)
  · have hji : j ≠ i := fun q => hh (by rw [q]; exact b2)
    obtain ⟨r0, r14⟩ := And.intro (R.2.2 j (by omega) hji 0 (by decide)) (R.2.2 j (by omega) hji 14 (by decide))
    rw [r14, c14]
    rw [r0] at h0j
    rw [c0] at h0i
    refine H.2.2.2.2.2.2.2.2.2.2.2 j i hj hi hji ?_ hn3 h0j h0i
    unfold zi_how at hh ⊢
    rw [← R.2.2 j (by omega) hji 2 (by decide)]
    exact hh
  · obtain ⟨m, m1, m2⟩ := H.2.2.2.2.2.2.2.2.2.1
    have m2 : zp_s m 0 6 + zp_s (ze_h s) 0 T + zp_s (ze_b s) 0 T ≤ 24 := m2
    refine ⟨m, fun x hx => by show zz_g 0 (nI x) 2 b = _; rw [R.1.g (by decide)]; exact m1 x hx, ?_⟩
    have c1 := zp_s_upd (f := ze_h s) (g := ze_h b) (j := i) T 0 (Nat.zero_le _) (by omega) (fun j hne _ hj => by unfold ze_h zi_how; rw [R.2.2 j (by omega) hne 2 (by decide)])
    have c2 : zp_s (ze_b b) 0 T = zp_s (ze_b s) 0 T := zp_s_congr T 0 (fun j _ hj => by
      unfold ze_b
      by_cases q : j = i
      · rw [q, c15]
      · rw [R.2.2 j (by omega) q 15 (by decide)])
    have c3 : ze_h s i = 1 := zp_b1 hn3
    have c4 : ze_h b i = 0 := zp_b0 (fun q => q b2)
    show zp_s m 0 6 + zp_s (ze_h b) 0 T + zp_s (ze_b b) 0 T ≤ 23
    omega
theorem zm_move {f : Nat → Int32} {e T i : Nat} {s : zz_T} (hi : i < T) (H : zi_I f e T s) : zp_ok (zX6_waitOf (nI i) s) (fun w => zm_Q f e T i s (zX6_move (nI i) w s)) := by
  have h60 := H.1.2.2.2.2.1
  have i60 : i < 60 := by omega
  have e1 : ∀ w, zX6_move (nI i) w s = if w = 0 then zX6_move_20 (nI i) (zz_g 16 (nI i) 2 s) true s else zX6_move_20 (nI i) (zz_g 16 (nI i) 2 s) false s := fun _ => rfl
  have e20 : ∀ (v : Int32) (k : Bool), zX6_move_20 (nI i) v k s = if v = 1 then (false, zX6_run (nI i) k s) else if v = 0 then (false, zX6_stay (nI i) k s) else if v = 2 then (if 0 < zz_g 16 (nI i) 5 (zz_add 16 (nI i) 5 (-1) s) then (false, zz_add 16 (nI i) 5 (-1) s) else (true, zz_set 16 (nI i) 3 (-1) (zz_set 16 (nI i) 2 3 (zz_add 16 (nI i) 5 (-1) s)))) else (false, s) := fun _ _ => rfl
  have no : ∀ b : zz_T, (zi_I f e T b ∧ zp_F [1, 16] [] s b) → zm_Q f e T i s (false, b) := fun b hb => ⟨hb, fun q => absurd (show false = true from q) (by decide)⟩
  unfold zX6_waitOf
  simp only [zz_v]
  obtain ⟨k, hk, ek⟩ := (H.2.2.2.2.2.2.2.1.1 i hi).1
  have hhow : zz_g 16 (nI i) 2 s = nI k := ek
  rcases (show k = 0 ∨ k = 1 ∨ k = 2 ∨ k = 3 by omega) with rfl | rfl | rfl | rfl
  · rw [hhow, if_pos (show nI 0 = 0 from rfl)]
    refine (zm_stand hi H hhow).bind (fun w hw => .ret ?_)
    rw [e1, hhow]
    refine zp_if (fun p => zm_Q f e T i s p) (fun q => ?_) (fun q => ?_)
    · rw [e20, if_neg (by decide), if_pos (show nI 0 = 0 from rfl)]; exact no _ (hw q)
    · rw [e20, if_neg (by decide), if_pos (show nI 0 = 0 from rfl)]; exact no _ (zm_stay hi H)
  · rw [hhow, if_neg (by decide), if_pos (show nI 1 = 1 from rfl)]
    have fin : ∀ w : Int32, (w = 0 → zm_W T i s ∨ 1 < zz_g 16 (nI i) 5 s) → zm_Q f e T i s (zX6_move (nI i) w s) := by
      intro w hw
      rw [e1, hhow]
      refine zp_if (fun p => zm_Q f e T i s p) (fun q => ?_) (fun q => ?_)
      · rw [e20, if_pos (show nI 1 = 1 from rfl)]; exact no _ (zm_run hi H hhow true (fun _ => hw q))
      · rw [e20, if_pos (show nI 1 = 1 from rfl)]; exact no _ (zm_run hi H hhow false (fun z => absurd z (by decide)))
    exact zp_ite (fun q => .ret (fin 0 (fun _ => Or.inr q))) (fun _ => (zm_onBlock hi H hhow).bind (fun w hw => .ret (fin w (fun q => Or.inl (hw q)))))
  · rw [hhow, if_neg (by decide), if_neg (by decide)]
    refine .ret ?_
    rw [e1, if_pos rfl, e20, hhow, if_neg (by decide), if_neg (by decide), if_pos (show nI 2 = 2 from rfl)]
    have hadd : zi_I f e T (zz_add 16 (nI i) 5 (-1) s) := zi_I_set (t := 16) (by decide) (show i < 60 from i60) (by decide) (by decide) H
    have fadd : zp_F [1, 16] [] s (zz_add 16 (nI i) 5 (-1) s) := zp_F.rfl.add (by decide)
    refine zp_if (fun p => zm_Q f e T i s p) (fun _ => no _ ⟨hadd, fadd⟩) (fun _ => ?_)
    have h2 : zi_how i (zz_add 16 (nI i) 5 (-1) s) = 2 := by
      unfold zi_how
      rw [za16 i60 i60 (by decide) (by decide), if_neg (fun q => absurd q.2 (by decide))]
      exact hhow
    obtain ⟨⟨d1, d2⟩, d3⟩ := zm_done hi hadd h2
    exact ⟨⟨d1, fadd.trans d2⟩, d3⟩
  · rw [hhow, if_neg (by decide), if_neg (by decide)]
    refine .ret ?_
    rw [e1, if_pos rfl, e20, hhow, if_neg (by decide), if_neg (by decide), if_neg (by decide)]
    exact no _ ⟨H, .rfl⟩
