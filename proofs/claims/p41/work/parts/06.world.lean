/-! THE WORLD: 57 cells that stay where they are: the object (0), its eight (1 to 8), 24 tables (9 + t), their arrays (33 + t). -/
abbrev zz_T : Type := (Nat → Nat → Int32) × (Nat → Int32)
def zz_w (t : Nat) : Int32 := ([5, 8, 10, 10, 13, 3, 7, 14, 14, 14, 3, 7, 14, 14, 14, 3, 16, 1, 3, 13, 3, 2, 21, 6] : List Int32).getD t 0
def zz_n (t : Nat) : Nat := ([50, 112, 100, 100, 78, 144, 378, 756, 756, 756, 42, 378, 756, 756, 756, 42, 960, 60, 18, 39, 54, 6, 63, 24] : List Nat).getD t 0
def zz_l (t : Nat) : Int32 := Int32.ofNat (zz_n t)
def zz_at (t : Nat) (r c : Int32) : Int32 := r * zz_w t + c
abbrev zz_in (t : Nat) (r c : Int32) : Prop := 0 ≤ r ∧ 0 ≤ c ∧ c < zz_w t ∧ 0 ≤ zz_at t r c ∧ zz_at t r c < zz_l t
def zz_g (t : Nat) (r c : Int32) (st : zz_T) : Int32 := if zz_in t r c then st.1 t (zz_at t r c).toNatClampNeg else 0
def zz_up (t : Nat) (f : Nat → Int32) (st : zz_T) : zz_T := (fun u => if u = t then f else st.1 u, st.2)
def zz_set (t : Nat) (r c v : Int32) (st : zz_T) : zz_T := if zz_in t r c then zz_up t (upd (st.1 t) (zz_at t r c).toNatClampNeg v) st else st
def zz_add (t : Nat) (r c v : Int32) (st : zz_T) : zz_T := zz_set t r c (zz_g t r c st + v) st
def zz_fill (t : Nat) (v : Int32) (st : zz_T) : zz_T := zz_up t (fun _ => v) st
def zz_cp (t u : Nat) (st : zz_T) : zz_T := zz_up t (st.1 u) st
def zz_S (k : Nat) (v : Int32) (st : zz_T) : zz_T := (st.1, fun j => if j = k then v else st.2 j)
/-- a truth as a number -/
def zz_b (b : Bool) : Int32 := match b with
  | true => 1
  | false => 0
theorem zz_b0 {b : Bool} (h : zz_b b = 0) : b = false := by cases b <;> first | rfl | exact absurd h (by decide)
theorem zz_b1 {b : Bool} (h : ¬ zz_b b = 0) : b = true := by cases b <;> first | rfl | exact absurd rfl h
theorem zz_narrow (b : Bool) : narrow .boolean (.int (zz_b b)) = .int (zz_b b) := by cases b <;> rfl
theorem zz_if0 {α : Type} {b : Bool} {x y : α} (h : b = false) : (if b = true then x else y) = y := by rw [h]; rfl
theorem zz_if1 {α : Type} {b : Bool} {x y : α} (h : b = true) : (if b = true then x else y) = x := by rw [h]; rfl
/-- a name for a value -/
def zz_v {α β : Type} (a : α) (f : α → β) : β := f a
theorem zz_vo {α β : Type} {a : α} {f : α → β} {r : β} (h : zz_v a f = r) : ∃ x, a = x ∧ f x = r := ⟨a, rfl, h⟩
theorem zz_vi {α β : Type} {a x : α} {f : α → β} {r : β} (h : zz_v a f = r) (e : x = a) : f x = r := by rw [e]; exact h
theorem zz_bo {α β : Type} {a : Option α} {f : α → Option β} {r : β} (h : a.bind f = some r) : ∃ x, a = some x ∧ f x = some r := by
  cases a with
  | none => cases h
  | some x => exact ⟨x, rfl, h⟩
/-- how far a loop is followed -/
def zz_N : Nat := 1000
def zz_c (q : Nat → Nat) (cI : ClassId) (st : zz_T) : va_W :=
  ([(q 0, .inr (8, [.ref (q 1), .ref (q 2), .ref (q 3), .ref (q 4), .ref (q 5), .ref (q 6), .ref (q 7), .ref (q 8), .ref (q (9 + 23)), .int (st.2 0), .int (st.2 1)])),
    (q 1, .inr (1, [.ref (q (9 + 0)), .ref (q (9 + 1)), .ref (q (9 + 2)), .ref (q (9 + 3)), .int (st.2 2), .int (st.2 3)])),
    (q 2, .inr (7, [.ref (q (9 + 4)), .ref (q (9 + 5)), .int (st.2 4)])),
    (q 3, .inr (2, [.ref (q (9 + 6)), .ref (q (9 + 7)), .ref (q (9 + 8)), .ref (q (9 + 9)), .ref (q (9 + 10))])),
    (q 4, .inr (2, [.ref (q (9 + 11)), .ref (q (9 + 12)), .ref (q (9 + 13)), .ref (q (9 + 14)), .ref (q (9 + 15))])),
    (q 5, .inr (6, [.ref (q (9 + 16)), .ref (q (9 + 17)), .int (st.2 5)])),
    (q 6, .inr (4, [.ref (q (9 + 18)), .int (st.2 6)])),
    (q 7, .inr (3, [.ref (q (9 + 19))])),
    (q 8, .inr (0, [.ref (q (9 + 20)), .ref (q (9 + 21)), .ref (q (9 + 22)), .int (st.2 7)]))] : va_W)
  ++ ((List.range 24).map (fun t => ((q (9 + t), .inr (5, [.ref (q (33 + t)), .int (zz_w t)])) : Nat × va_E))
  ++ (List.range 24).map (fun t => ((q (33 + t), .inl (cI, zz_n t, .inl (st.1 t))) : Nat × va_E)))
theorem zz_c_len (q : Nat → Nat) (cI : ClassId) (st : zz_T) : (zz_c q cI st).length = 57 := by simp [zz_c]
theorem zz_c_tab {q : Nat → Nat} {cI : ClassId} {st : zz_T} {t : Nat} (h : t < 24) : (zz_c q cI st)[9 + t]? = some (q (9 + t), .inr (5, [.ref (q (33 + t)), .int (zz_w t)])) := by
  unfold zz_c
  rw [List.getElem?_append_right (by show 9 ≤ 9 + t; omega), List.getElem?_append_left (by simp; omega)]
  simp [h]
theorem zz_c_arr {q : Nat → Nat} {cI : ClassId} {st : zz_T} {t : Nat} (h : t < 24) : (zz_c q cI st)[33 + t]? = some (q (33 + t), .inl (cI, zz_n t, .inl (st.1 t))) := by
  unfold zz_c
  rw [List.getElem?_append_right (by show 9 ≤ 33 + t; omega), List.getElem?_append_right (by simp; omega)]
  have h9 : 33 + t - 9 - 24 = t := by omega
  simp [h9, h]
/-- the k-th cell lies at q k -/
theorem zz_c_q {q : Nat → Nat} {cI : ClassId} {st : zz_T} {k : Nat} {x : Nat × va_E} (h : (zz_c q cI st)[k]? = some x) : k < 57 ∧ x.1 = q k := by
  have hk : k < 57 := by
    rw [← zz_c_len q cI st]
    exact (List.getElem?_eq_some_iff.mp h).1
  refine ⟨hk, ?_⟩
  by_cases h9 : k < 9
  · match k, h9 with
    | 0, _ => cases h; rfl
    | 1, _ => cases h; rfl
    | 2, _ => cases h; rfl
    | 3, _ => cases h; rfl
    | 4, _ => cases h; rfl
    | 5, _ => cases h; rfl
    | 6, _ => cases h; rfl
    | 7, _ => cases h; rfl
    | 8, _ => cases h; rfl
  · by_cases h33 : k < 33
    · obtain ⟨t, rfl⟩ : ∃ t, k = 9 + t := ⟨k - 9, by omega⟩
      rw [zz_c_tab (by omega)] at h
      cases h; rfl
    · obtain ⟨t, rfl⟩ : ∃ t, k = 33 + t := ⟨k - 33, by omega⟩
      rw [zz_c_arr (by omega)] at h
      cases h; rfl
theorem zz_c_set {q : Nat → Nat} {cI : ClassId} {st : zz_T} {t : Nat} (h : t < 24) (f : Nat → Int32) : (zz_c q cI st).set (33 + t) (q (33 + t), .inl (cI, zz_n t, .inl f)) = zz_c q cI (zz_up t f st) := by
  apply List.ext_getElem?
  intro k
  by_cases hk : k = 33 + t
  · subst hk
    rw [zz_c_arr h, List.getElem?_set_self (by rw [zz_c_len]; omega)]
    simp [zz_up]
  · rw [List.getElem?_set_ne (Ne.symm hk)]
    by_cases h9 : k < 9
    · match k, h9 with
      | 0, _ => rfl
      | 1, _ => rfl
      | 2, _ => rfl
      | 3, _ => rfl
      | 4, _ => rfl
      | 5, _ => rfl
      | 6, _ => rfl
      | 7, _ => rfl
      | 8, _ => rfl
    · by_cases h33 : k < 33
      · obtain ⟨u, rfl⟩ : ∃ t, k = 9 + t := ⟨k - 9, by omega⟩
        rw [zz_c_tab (by omega), zz_c_tab (by omega)]
      · by_cases h57 : k < 57
        · obtain ⟨u, rfl⟩ : ∃ t, k = 33 + t := ⟨k - 33, by omega⟩
          rw [zz_c_arr (by omega), zz_c_arr (by omega)]
          have hu : u ≠ t := by omega
          simp [zz_up, hu]
        · rw [List.getElem?_eq_none (by rw [zz_c_len]; omega), List.getElem?_eq_none (by rw [zz_c_len]; omega)]
/-- the addresses: apart, and of a kind -/
def zz_D (A : Nat → Prop) (q : Nat → Nat) : Prop := (∀ i j, i < 57 → j < 57 → q i = q j → i = j) ∧ ∀ i, i < 57 → A (q i)
theorem zz_D.va {A : Nat → Prop} {q : Nat → Nat} (h : zz_D A q) (cI : ClassId) (st : zz_T) : va_D A (zz_c q cI st) := by
  refine ⟨fun i j x y hx hy hxy => ?_, fun k x hx => ?_⟩
  · obtain ⟨h1, h2⟩ := zz_c_q hx
    obtain ⟨h3, h4⟩ := zz_c_q hy
    exact h.1 i j h1 h3 (by rw [← h2, ← h4]; exact hxy)
  · obtain ⟨h1, h2⟩ := zz_c_q hx
    rw [h2]; exact h.2 k h1
/-- what nobody writes: three tables of Units, the JDK's two statics of a throw, the texts -/
def zz_wt (k : Nat) : Nat → Int32 := fun j => (([[1, 4, 3, 6, 0], [2, 3, 6, 9, 4], [6, 6, 9, 9, 6]] : List (List Int32)).getD k []).getD j 0
abbrev zz_St (n : String) (k : Nat) (A : Nat → Prop) (U : State) : Prop := ∃ t : Nat, va_Z "ThirteenthDay$Units" n "[I" (.ref t) A U U.heap ∧ va_T .int t 5 (fun j => .int (zz_wt k j)) A U U.heap
/-- the words of a throw, and of its catching, that a method's own list can't bear -/
def zz_bad : List Cond := [.castable "java/lang/IndexOutOfBoundsException" "java/lang/IndexOutOfBoundsException", .castable "java/lang/IllegalArgumentException" "java/lang/IllegalArgumentException", .castable "java/lang/IllegalStateException" "java/lang/IllegalStateException", .declares (Bundle.initS "java/lang/RuntimeException"), .declares (Bundle.initS "java/lang/Exception"), .declares (Bundle.initS Bundle.tN)]
def zz_nc : List (String × String) := [("java/lang/IllegalArgumentException", "java/lang/IndexOutOfBoundsException"), ("java/lang/IllegalStateException", "java/lang/IndexOutOfBoundsException"), ("java/lang/IllegalStateException", "java/lang/IllegalArgumentException")]
theorem zz_bad_k {w : Cond} (h : w ∈ zz_bad) : (∃ a b, w = .castable a b) ∨ ∃ x, w = .declares x := by
  simp only [zz_bad, List.mem_cons, List.not_mem_nil, or_false] at h
  rcases h with rfl | rfl | rfl | rfl | rfl | rfl
  · exact Or.inl ⟨_, _, rfl⟩
  · exact Or.inl ⟨_, _, rfl⟩
  · exact Or.inl ⟨_, _, rfl⟩
  · exact Or.inr ⟨_, rfl⟩
  · exact Or.inr ⟨_, rfl⟩
  · exact Or.inr ⟨_, rfl⟩
theorem zz_bad_t {w : Cond} (h : w ∈ zz_bad) : w.onTables = true := by
  rcases zz_bad_k h with ⟨a, b, rfl⟩ | ⟨x, rfl⟩ <;> rfl
theorem zz_bad_w {w : Cond} (h : w ∈ zz_bad) {s U : State} (hW : s.WarmedH U.vm) (hZ : va_Nw w s) : va_Nw w U := by
  rcases zz_bad_k h with ⟨a, b, rfl⟩ | ⟨x, rfl⟩
  · exact va_Nw.warmC hW hZ
  · exact va_tabs rfl (rfl : (s.setVm U.vm).vm = U.vm) (by rw [Cond.declares_setVm hW.alike]; exact hZ)
def zz_E (tx : List (String × Nat × String)) (A : Nat → Prop) (U : State) : Prop :=
  zz_St "WEIGHTS" 0 A U ∧ zz_St "UNLOADINGS" 1 A U ∧ zz_St "WORKS" 2 A U ∧
  vx_Zq Bundle.tN "UNASSIGNED_STACK" Bundle.steD A U U.heap ∧ vx_Zq Bundle.tN "SUPPRESSED_SENTINEL" Bundle.listD A U U.heap ∧
  (∀ x ∈ tx, ∃ a : Nat, vk_R x.1 x.2.1 x.2.2 a U) ∧ (∀ w ∈ zz_bad, va_Nw w U) ∧ ∀ x ∈ zz_nc, va_Nc x.1 x.2 U
theorem zz_St.to {n : String} {k : Nat} {A : Nat → Prop} {s U : State} (hW : s.vm.Alike U.vm) (hq : ∀ a : Nat, a < s.heap.size → ¬ A a → U.heap[a]? = s.heap[a]?) (h : zz_St n k A s) : zz_St n k A U := by
  obtain ⟨t, h1, h2⟩ := h
  exact ⟨t, (h1.kept hq).moved hW, (h2.kept hq).moved hW⟩
theorem zz_E.to {tx : List (String × Nat × String)} {A : Nat → Prop} {s U : State} (hW : s.WarmedH U.vm) (hq : ∀ a : Nat, a < s.heap.size → ¬ A a → U.heap[a]? = s.heap[a]?) (h : zz_E tx A s) : zz_E tx A U := by
  obtain ⟨h1, h2, h3, h4, h5, h6, h7, h8⟩ := h
  exact ⟨zz_St.to hW.alike hq h1, zz_St.to hW.alike hq h2, zz_St.to hW.alike hq h3, vx_Zq.moved hW.alike (h4.kept hq), vx_Zq.moved hW.alike (h5.kept hq), fun x hx => by
    obtain ⟨a, ha⟩ := h6 x hx
    exact ⟨a, ha.warm hW⟩, fun w hw => zz_bad_w hw hW (h7 w hw), fun x hx => (h8 x hx).moved hW.alike⟩
theorem zz_E.blind {tx : List (String × Nat × String)} {A : Nat → Prop} {U : State} {g : JFrame} {mk : MethodId} {a : Array Value} (h : zz_E tx A U) : zz_E tx A (U.calling g mk a) :=
  zz_E.to (U := U.calling g mk a) (State.WarmedH.refl U) (fun _ _ _ => rfl) h
