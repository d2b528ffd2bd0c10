/-! PURE: what is asked does not read the trial book (printed by wip/p41/gencong.py) -/
abbrev zw_E (a b : zz_T) : Prop := zp_F [11, 12, 13, 14, 15] [] a b
theorem zw_s {a b : zz_T} (h : zw_E a b) : b.2 = a.2 := funext (fun k => h.2 k (by simp))
theorem zw_g0 {a b : zz_T} (h : zw_E a b) (r c : Int32) : zz_g 0 r c b = zz_g 0 r c a := h.g (by decide) r c
theorem zw_g1 {a b : zz_T} (h : zw_E a b) (r c : Int32) : zz_g 1 r c b = zz_g 1 r c a := h.g (by decide) r c
theorem zw_g2 {a b : zz_T} (h : zw_E a b) (r c : Int32) : zz_g 2 r c b = zz_g 2 r c a := h.g (by decide) r c
theorem zw_g3 {a b : zz_T} (h : zw_E a b) (r c : Int32) : zz_g 3 r c b = zz_g 3 r c a := h.g (by decide) r c
theorem zw_g4 {a b : zz_T} (h : zw_E a b) (r c : Int32) : zz_g 4 r c b = zz_g 4 r c a := h.g (by decide) r c
theorem zw_g5 {a b : zz_T} (h : zw_E a b) (r c : Int32) : zz_g 5 r c b = zz_g 5 r c a := h.g (by decide) r c
theorem zw_g6 {a b : zz_T} (h : zw_E a b) (r c : Int32) : zz_g 6 r c b = zz_g 6 r c a := h.g (by decide) r c
theorem zw_g7 {a b : zz_T} (h : zw_E a b) (r c : Int32) : zz_g 7 r c b = zz_g 7 r c a := h.g (by decide) r c
theorem zw_g8 {a b : zz_T} (h : zw_E a b) (r c : Int32) : zz_g 8 r c b = zz_g 8 r c a := h.g (by decide) r c
theorem zw_g9 {a b : zz_T} (h : zw_E a b) (r c : Int32) : zz_g 9 r c b = zz_g 9 r c a := h.g (by decide) r c
theorem zw_g10 {a b : zz_T} (h : zw_E a b) (r c : Int32) : zz_g 10 r c b = zz_g 10 r c a := h.g (by decide) r c
theorem zw_g16 {a b : zz_T} (h : zw_E a b) (r c : Int32) : zz_g 16 r c b = zz_g 16 r c a := h.g (by decide) r c
theorem zw_g18 {a b : zz_T} (h : zw_E a b) (r c : Int32) : zz_g 18 r c b = zz_g 18 r c a := h.g (by decide) r c
theorem zw_g19 {a b : zz_T} (h : zw_E a b) (r c : Int32) : zz_g 19 r c b = zz_g 19 r c a := h.g (by decide) r c
theorem zw_g20 {a b : zz_T} (h : zw_E a b) (r c : Int32) : zz_g 20 r c b = zz_g 20 r c a := h.g (by decide) r c
theorem zw_g21 {a b : zz_T} (h : zw_E a b) (r c : Int32) : zz_g 21 r c b = zz_g 21 r c a := h.g (by decide) r c
theorem zw_g22 {a b : zz_T} (h : zw_E a b) (r c : Int32) : zz_g 22 r c b = zz_g 22 r c a := h.g (by decide) r c
theorem zw_zX7_weightOf {a b : zz_T} (h : zw_E a b) (w0 : Int32) : zX7_weightOf w0 b = zX7_weightOf w0 a := by
  simp only [zX7_weightOf, zz_v, zw_s h, eq_self, implies_true]
theorem zw_zX7_get {a b : zz_T} (h : zw_E a b) (w0 : Int32) (w1 : Int32) : zX7_get w0 w1 b = zX7_get w0 w1 a := by
  simp only [zX7_get, zz_v, zw_g4 h, zw_s h, eq_self, implies_true]
theorem zw_zX7_has {a b : zz_T} (h : zw_E a b) (w0 : Int32) : zX7_has w0 b = zX7_has w0 a := by
  simp only [zX7_has, zz_v, zw_s h, eq_self, implies_true]
theorem zw_zX2_slotOf {a b : zz_T} (h : zw_E a b) (w0 : Int32) (w1 : Int32) : zX2_slotOf w0 w1 b = zX2_slotOf w0 w1 a := by
  simp only [zX2_slotOf, zz_v, zw_s h, eq_self, implies_true]
theorem zw_zX2_isKept {a b : zz_T} (h : zw_E a b) (w0 : Int32) : zX2_isKept 6 w0 b = zX2_isKept 6 w0 a := by
  simp only [zX2_isKept, zz_v, zw_g6 h, zw_g7 h, zw_g8 h, zw_g9 h, zw_g10 h, zw_s h, Nat.reduceAdd, Nat.add_zero, eq_self, implies_true]
theorem zw_zX3_get {a b : zz_T} (h : zw_E a b) (w0 : Int32) (w1 : Int32) : zX3_get w0 w1 b = zX3_get w0 w1 a := by
  simp only [zX3_get, zz_v, zw_g19 h, zw_s h, eq_self, implies_true]
theorem zw_zX2_foulsOn_62 {a b : zz_T} (h : zw_E a b) : ∀ (m : Nat) (w0 : Int32) (w1 : Int32) (w2 : Int32) (w3 : Int32) (w4 : Int32) (w5 : Int32), zX2_foulsOn_62 6 m w0 w1 w2 w3 w4 w5 b = zX2_foulsOn_62 6 m w0 w1 w2 w3 w4 w5 a := by
  intro m
  induction m with
  | zero => intros; simp only [zX2_foulsOn_62]
  | succ m ih => intros; simp only [zX2_foulsOn_62, zz_v, zw_g6 h, zw_g7 h, zw_g8 h, zw_g9 h, zw_g10 h, zw_s h, Nat.reduceAdd, Nat.add_zero, zX2_foulsOn_134, eq_self, implies_true, ih]
theorem zw_zX2_foulsOn {a b : zz_T} (h : zw_E a b) (w0 : Int32) (w1 : Int32) : zX2_foulsOn 6 w0 w1 b = zX2_foulsOn 6 w0 w1 a := by
  simp only [zX2_foulsOn, zz_v, zw_g6 h, zw_g7 h, zw_g8 h, zw_g9 h, zw_g10 h, zw_s h, Nat.reduceAdd, Nat.add_zero, zw_zX2_foulsOn_62 h, eq_self, implies_true]
theorem zw_zX2_firstFouledLine_2 {a b : zz_T} (h : zw_E a b) : ∀ (m : Nat) (w0 : Int32) (w1 : Int32), zX2_firstFouledLine_2 6 m w0 w1 b = zX2_firstFouledLine_2 6 m w0 w1 a := by
  intro m
  induction m with
  | zero => intros; simp only [zX2_firstFouledLine_2]
  | succ m ih => intros; simp only [zX2_firstFouledLine_2, zz_v, zw_g6 h, zw_g7 h, zw_g8 h, zw_g9 h, zw_g10 h, zw_s h, Nat.reduceAdd, Nat.add_zero, zw_zX2_foulsOn h, eq_self, implies_true, ih]
theorem zw_zX2_firstFouledLine {a b : zz_T} (h : zw_E a b) (w0 : Int32) : zX2_firstFouledLine 6 w0 b = zX2_firstFouledLine 6 w0 a := by
  simp only [zX2_firstFouledLine, zz_v, zw_g6 h, zw_g7 h, zw_g8 h, zw_g9 h, zw_g10 h, zw_s h, Nat.reduceAdd, Nat.add_zero, zw_zX2_firstFouledLine_2 h, eq_self, implies_true]
theorem zw_zX2_arrivesOf {a b : zz_T} (h : zw_E a b) (w0 : Int32) : zX2_arrivesOf 6 w0 b = zX2_arrivesOf 6 w0 a := by
  simp only [zX2_arrivesOf, zz_v, zw_g6 h, zw_g7 h, zw_g8 h, zw_g9 h, zw_g10 h, zw_s h, Nat.reduceAdd, Nat.add_zero, eq_self, implies_true]
theorem zw_zX1_endOf {a b : zz_T} (h : zw_E a b) (w0 : Int32) (w1 : Bool) : zX1_endOf w0 w1 b = zX1_endOf w0 w1 a := by
  simp only [zX1_endOf, zz_v, zw_g1 h, zw_s h, eq_self, implies_true]
theorem zw_zX1_firstOf {a b : zz_T} (h : zw_E a b) (w0 : Int32) (w1 : Int32) : zX1_firstOf w0 w1 b = zX1_firstOf w0 w1 a := by
  simp only [zX1_firstOf, zz_v, zw_g3 h, zw_s h, eq_self, implies_true]
theorem zw_zX1_getLine {a b : zz_T} (h : zw_E a b) (w0 : Int32) (w1 : Int32) : zX1_getLine w0 w1 b = zX1_getLine w0 w1 a := by
  simp only [zX1_getLine, zz_v, zw_g1 h, zw_s h, eq_self, implies_true]
theorem zw_zX1_getStation {a b : zz_T} (h : zw_E a b) (w0 : Int32) (w1 : Int32) : zX1_getStation w0 w1 b = zX1_getStation w0 w1 a := by
  simp only [zX1_getStation, zz_v, zw_g0 h, zw_s h, eq_self, implies_true]
theorem zw_zX1_isDouble {a b : zz_T} (h : zw_E a b) (w0 : Int32) : zX1_isDouble w0 b = zX1_isDouble w0 a := by
  simp only [zX1_isDouble, zz_v, zw_g1 h, zw_s h, eq_self, implies_true]
theorem zw_zX0_toldFromTo_6 {a b : zz_T} (h : zw_E a b) : ∀ (m : Nat) (w0 : Int32) (w1 : Int32) (w2 : Int32) (w3 : Int32) (w4 : Int32) (w5 : Int32), zX0_toldFromTo_6 m w0 w1 w2 w3 w4 w5 b = zX0_toldFromTo_6 m w0 w1 w2 w3 w4 w5 a := by
  intro m
  induction m with
  | zero => intros; simp only [zX0_toldFromTo_6]
  | succ m ih => intros; simp only [zX0_toldFromTo_6, zz_v, zw_g20 h, zw_g21 h, zw_s h, zX0_toldFromTo_73, eq_self, implies_true, ih]
theorem zw_zX0_toldFromTo {a b : zz_T} (h : zw_E a b) (w0 : Int32) (w1 : Int32) (w2 : Int32) (w3 : Int32) : zX0_toldFromTo w0 w1 w2 w3 b = zX0_toldFromTo w0 w1 w2 w3 a := by
  simp only [zX0_toldFromTo, zz_v, zw_s h, zw_zX0_toldFromTo_6 h, eq_self, implies_true]
theorem zw_zX0_isPossible_12 {a b : zz_T} (h : zw_E a b) (k2 : Int32 → Int32 → Int32 → zz_T → Option Bool) (hk2 : ∀ (x0 : Int32) (x1 : Int32) (x2 : Int32), k2 x0 x1 x2 b = k2 x0 x1 x2 a) : ∀ (m : Nat) (w0 : Int32) (w1 : Int32) (w2 : Int32) (w3 : Int32), zX0_isPossible_12 k2 m w0 w1 w2 w3 b = zX0_isPossible_12 k2 m w0 w1 w2 w3 a := by
  intro m
  induction m with
  | zero => intros; simp only [zX0_isPossible_12]
  | succ m ih => intros; simp only [zX0_isPossible_12, zz_v, zw_g22 h, zw_s h, zw_zX0_toldFromTo h, eq_self, implies_true, hk2, ih]
theorem zw_zX0_isPossible_2 {a b : zz_T} (h : zw_E a b) : ∀ (m : Nat) (w0 : Int32) (w1 : Int32) (w2 : Int32), zX0_isPossible_2 m w0 w1 w2 b = zX0_isPossible_2 m w0 w1 w2 a := by
  intro m
  induction m with
  | zero => intros; simp only [zX0_isPossible_2]
  | succ m ih => intros; simp only [zX0_isPossible_2, zz_v, zw_s h, zw_zX0_isPossible_12 h, eq_self, implies_true, ih]
theorem zw_zX0_isPossible {a b : zz_T} (h : zw_E a b) (w0 : Int32) (w1 : Int32) : zX0_isPossible w0 w1 b = zX0_isPossible w0 w1 a := by
  simp only [zX0_isPossible, zz_v, zw_s h, zw_zX0_isPossible_2 h, eq_self, implies_true]
theorem zw_zX0_guessOn_4 {a b : zz_T} (h : zw_E a b) : ∀ (m : Nat) (w0 : Int32) (w1 : Int32) (w2 : Int32), zX0_guessOn_4 m w0 w1 w2 b = zX0_guessOn_4 m w0 w1 w2 a := by
  intro m
  induction m with
  | zero => intros; simp only [zX0_guessOn_4]
  | succ m ih => intros; simp only [zX0_guessOn_4, zz_v, zw_g21 h, zw_s h, zX0_guessOn_40, zw_zX0_isPossible h, eq_self, implies_true, ih]
theorem zw_zX0_guessOn {a b : zz_T} (h : zw_E a b) (w0 : Int32) : zX0_guessOn w0 b = zX0_guessOn w0 a := by
  simp only [zX0_guessOn, zz_v, zw_s h, zw_zX0_guessOn_4 h, eq_self, implies_true]
theorem zw_zX8_day {a b : zz_T} (h : zw_E a b)  : zX8_day b = zX8_day a := by
  simp only [zX8_day, zz_v, zw_s h, eq_self, implies_true]
theorem zw_zX1_countLines {a b : zz_T} (h : zw_E a b)  : zX1_countLines b = zX1_countLines a := by
  simp only [zX1_countLines, zz_v, zw_s h, eq_self, implies_true]
theorem zw_zX1_countStations {a b : zz_T} (h : zw_E a b)  : zX1_countStations b = zX1_countStations a := by
  simp only [zX1_countStations, zz_v, zw_s h, eq_self, implies_true]
theorem zw_zX6_isOn {a b : zz_T} (h : zw_E a b) (w0 : Int32) (w1 : Int32) : zX6_isOn w0 w1 b = zX6_isOn w0 w1 a := by
  simp only [zX6_isOn, zz_v, zw_g16 h, zw_s h, eq_self, implies_true]
theorem zw_zX6_countOn_4 {a b : zz_T} (h : zw_E a b) : ∀ (m : Nat) (w0 : Int32) (w1 : Int32) (w2 : Int32), zX6_countOn_4 m w0 w1 w2 b = zX6_countOn_4 m w0 w1 w2 a := by
  intro m
  induction m with
  | zero => intros; simp only [zX6_countOn_4]
  | succ m ih => intros; simp only [zX6_countOn_4, zz_v, zw_s h, zw_zX6_isOn h, eq_self, implies_true, ih]
theorem zw_zX6_countOn {a b : zz_T} (h : zw_E a b) (w0 : Int32) : zX6_countOn w0 b = zX6_countOn w0 a := by
  simp only [zX6_countOn, zz_v, zw_s h, zw_zX6_countOn_4 h, eq_self, implies_true]
theorem zw_zX8_lineFact {a b : zz_T} (h : zw_E a b) (w0 : Int32) (w1 : Int32) : zX8_lineFact w0 w1 b = zX8_lineFact w0 w1 a := by
  simp only [zX8_lineFact, zz_v, zw_s h, zw_zX1_getLine h, zw_zX6_countOn h, eq_self, implies_true]
theorem zw_zX6_isAt {a b : zz_T} (h : zw_E a b) (w0 : Int32) (w1 : Int32) : zX6_isAt w0 w1 b = zX6_isAt w0 w1 a := by
  simp only [zX6_isAt, zz_v, zw_g16 h, zw_s h, eq_self, implies_true]
theorem zw_zX6_countAt_4 {a b : zz_T} (h : zw_E a b) : ∀ (m : Nat) (w0 : Int32) (w1 : Int32) (w2 : Int32), zX6_countAt_4 m w0 w1 w2 b = zX6_countAt_4 m w0 w1 w2 a := by
  intro m
  induction m with
  | zero => intros; simp only [zX6_countAt_4]
  | succ m ih => intros; simp only [zX6_countAt_4, zz_v, zw_s h, zw_zX6_isAt h, eq_self, implies_true, ih]
theorem zw_zX6_countAt {a b : zz_T} (h : zw_E a b) (w0 : Int32) : zX6_countAt w0 b = zX6_countAt w0 a := by
  simp only [zX6_countAt, zz_v, zw_s h, zw_zX6_countAt_4 h, eq_self, implies_true]
theorem zw_zX6_countUnloadingAt_4 {a b : zz_T} (h : zw_E a b) : ∀ (m : Nat) (w0 : Int32) (w1 : Int32) (w2 : Int32), zX6_countUnloadingAt_4 m w0 w1 w2 b = zX6_countUnloadingAt_4 m w0 w1 w2 a := by
  intro m
  induction m with
  | zero => intros; simp only [zX6_countUnloadingAt_4]
  | succ m ih => intros; simp only [zX6_countUnloadingAt_4, zz_v, zw_g16 h, zw_s h, zw_zX6_isAt h, eq_self, implies_true, ih]
theorem zw_zX6_countUnloadingAt {a b : zz_T} (h : zw_E a b) (w0 : Int32) : zX6_countUnloadingAt w0 b = zX6_countUnloadingAt w0 a := by
  simp only [zX6_countUnloadingAt, zz_v, zw_s h, zw_zX6_countUnloadingAt_4 h, eq_self, implies_true]
theorem zw_zX8_stationFact {a b : zz_T} (h : zw_E a b) (w0 : Int32) (w1 : Int32) : zX8_stationFact w0 w1 b = zX8_stationFact w0 w1 a := by
  simp only [zX8_stationFact, zz_v, zw_s h, zw_zX1_getStation h, zw_zX6_countAt h, zw_zX6_countUnloadingAt h, eq_self, implies_true]
theorem zw_zX8_digestLand_72 {a b : zz_T} (h : zw_E a b) (k57 : Int64 → Int32 → zz_T → Option Int64) (hk57 : ∀ (x0 : Int64) (x1 : Int32), k57 x0 x1 b = k57 x0 x1 a) : ∀ (m : Nat) (w0 : Int64) (w1 : Int32) (w2 : Int32), zX8_digestLand_72 k57 m w0 w1 w2 b = zX8_digestLand_72 k57 m w0 w1 w2 a := by
  intro m
  induction m with
  | zero => intros; simp only [zX8_digestLand_72]
  | succ m ih => intros; simp only [zX8_digestLand_72, zz_v, zw_s h, zw_zX8_lineFact h, eq_self, implies_true, hk57, ih]
theorem zw_zX8_digestLand_57 {a b : zz_T} (h : zw_E a b) : ∀ (m : Nat) (w0 : Int64) (w1 : Int32), zX8_digestLand_57 m w0 w1 b = zX8_digestLand_57 m w0 w1 a := by
  intro m
  induction m with
  | zero => intros; simp only [zX8_digestLand_57]
  | succ m ih => intros; simp only [zX8_digestLand_57, zz_v, zw_s h, zw_zX1_countLines h, zw_zX8_digestLand_72 h, eq_self, implies_true, ih]
theorem zw_zX8_digestLand_20 {a b : zz_T} (h : zw_E a b) (k5 : Int64 → Int32 → zz_T → Option Int64) (hk5 : ∀ (x0 : Int64) (x1 : Int32), k5 x0 x1 b = k5 x0 x1 a) : ∀ (m : Nat) (w0 : Int64) (w1 : Int32) (w2 : Int32), zX8_digestLand_20 k5 m w0 w1 w2 b = zX8_digestLand_20 k5 m w0 w1 w2 a := by
  intro m
  induction m with
  | zero => intros; simp only [zX8_digestLand_20]
  | succ m ih => intros; simp only [zX8_digestLand_20, zz_v, zw_s h, zw_zX8_stationFact h, eq_self, implies_true, hk5, ih]
theorem zw_zX8_digestLand_5 {a b : zz_T} (h : zw_E a b) : ∀ (m : Nat) (w0 : Int64) (w1 : Int32), zX8_digestLand_5 m w0 w1 b = zX8_digestLand_5 m w0 w1 a := by
  intro m
  induction m with
  | zero => intros; simp only [zX8_digestLand_5]
  | succ m ih => intros; simp only [zX8_digestLand_5, zz_v, zw_s h, zw_zX1_countStations h, zw_zX8_digestLand_57 h, zw_zX8_digestLand_20 h, eq_self, implies_true, ih]
theorem zw_zX8_digestLand {a b : zz_T} (h : zw_E a b) (w0 : Int64) : zX8_digestLand w0 b = zX8_digestLand w0 a := by
  simp only [zX8_digestLand, zz_v, zw_s h, zw_zX8_digestLand_5 h, eq_self, implies_true]
theorem zw_zX0_seenOf_5 {a b : zz_T} (h : zw_E a b) : ∀ (m : Nat) (w0 : Int32) (w1 : Int32) (w2 : Int32) (w3 : Int32), zX0_seenOf_5 m w0 w1 w2 w3 b = zX0_seenOf_5 m w0 w1 w2 w3 a := by
  intro m
  induction m with
  | zero => intros; simp only [zX0_seenOf_5]
  | succ m ih => intros; simp only [zX0_seenOf_5, zz_v, zw_g22 h, zw_s h, eq_self, implies_true, ih]
theorem zw_zX0_seenOf {a b : zz_T} (h : zw_E a b) (w0 : Int32) (w1 : Int32) : zX0_seenOf w0 w1 b = zX0_seenOf w0 w1 a := by
  simp only [zX0_seenOf, zz_v, zw_s h, zw_zX0_seenOf_5 h, eq_self, implies_true]
theorem zw_zX7_countLoadsAt_5 {a b : zz_T} (h : zw_E a b) : ∀ (m : Nat) (w0 : Int32) (w1 : Int32) (w2 : Int32) (w3 : Int32), zX7_countLoadsAt_5 m w0 w1 w2 w3 b = zX7_countLoadsAt_5 m w0 w1 w2 w3 a := by
  intro m
  induction m with
  | zero => intros; simp only [zX7_countLoadsAt_5]
  | succ m ih => intros; simp only [zX7_countLoadsAt_5, zz_v, zw_g4 h, zw_g5 h, zw_s h, zw_zX2_slotOf h, zX7_countLoadsAt_59, eq_self, implies_true, ih]
theorem zw_zX7_countLoadsAt {a b : zz_T} (h : zw_E a b) (w0 : Int32) (w1 : Int32) : zX7_countLoadsAt w0 w1 b = zX7_countLoadsAt w0 w1 a := by
  simp only [zX7_countLoadsAt, zz_v, zw_s h, zw_zX7_countLoadsAt_5 h, eq_self, implies_true]
theorem zw_zX7_countAt_5 {a b : zz_T} (h : zw_E a b) : ∀ (m : Nat) (w0 : Int32) (w1 : Bool) (w2 : Int32) (w3 : Int32), zX7_countAt_5 m w0 w1 w2 w3 b = zX7_countAt_5 m w0 w1 w2 w3 a := by
  intro m
  induction m with
  | zero => intros; simp only [zX7_countAt_5]
  | succ m ih => intros; simp only [zX7_countAt_5, zz_v, zw_g4 h, zw_s h, zw_zX7_countLoadsAt h, eq_self, implies_true, ih]
theorem zw_zX7_countAt {a b : zz_T} (h : zw_E a b) (w0 : Int32) (w1 : Bool) : zX7_countAt w0 w1 b = zX7_countAt w0 w1 a := by
  simp only [zX7_countAt, zz_v, zw_s h, zw_zX7_countAt_5 h, eq_self, implies_true]
theorem zw_zX7_weightAt_4 {a b : zz_T} (h : zw_E a b) : ∀ (m : Nat) (w0 : Int32) (w1 : Int32) (w2 : Int32), zX7_weightAt_4 m w0 w1 w2 b = zX7_weightAt_4 m w0 w1 w2 a := by
  intro m
  induction m with
  | zero => intros; simp only [zX7_weightAt_4]
  | succ m ih => intros; simp only [zX7_weightAt_4, zz_v, zw_g4 h, zw_s h, zw_zX7_weightOf h, zw_zX7_countLoadsAt h, eq_self, implies_true, ih]
theorem zw_zX7_weightAt {a b : zz_T} (h : zw_E a b) (w0 : Int32) : zX7_weightAt w0 b = zX7_weightAt w0 a := by
  simp only [zX7_weightAt, zz_v, zw_s h, zw_zX7_weightAt_4 h, eq_self, implies_true]
theorem zw_zX8_sectorFact {a b : zz_T} (h : zw_E a b) (w0 : Int32) (w1 : Int32) : zX8_sectorFact w0 w1 b = zX8_sectorFact w0 w1 a := by
  simp only [zX8_sectorFact, zz_v, zw_s h, zw_zX3_get h, zw_zX8_day h, zw_zX0_seenOf h, zw_zX7_countAt h, zw_zX7_weightAt h, eq_self, implies_true]
theorem zw_zX2_isDueAt {a b : zz_T} (h : zw_E a b) (w0 : Int32) (w1 : Int32) (w2 : Int32) : zX2_isDueAt 6 w0 w1 w2 b = zX2_isDueAt 6 w0 w1 w2 a := by
  simp only [zX2_isDueAt, zz_v, zw_g6 h, zw_g7 h, zw_g8 h, zw_g9 h, zw_g10 h, zw_s h, Nat.reduceAdd, Nat.add_zero, zw_zX2_isKept h, zw_zX2_arrivesOf h, eq_self, implies_true]
theorem zw_zX7_count {a b : zz_T} (h : zw_E a b)  : zX7_count b = zX7_count a := by
  simp only [zX7_count, zz_v, zw_s h, eq_self, implies_true]
theorem zw_zX7_isAtBy {a b : zz_T} (h : zw_E a b) (w0 : Int32) (w1 : Int32) (w2 : Int32) : zX7_isAtBy w0 w1 w2 b = zX7_isAtBy w0 w1 w2 a := by
  simp only [zX7_isAtBy, zz_v, zw_g5 h, zw_s h, eq_self, implies_true]
theorem zw_zX8_weightBy_53 {a b : zz_T} (h : zw_E a b) (k23 : Int32 → Int32 → Int32 → Int32 → Int32 → zz_T → Option Int32) (hk23 : ∀ (x0 : Int32) (x1 : Int32) (x2 : Int32) (x3 : Int32) (x4 : Int32), k23 x0 x1 x2 x3 x4 b = k23 x0 x1 x2 x3 x4 a) : ∀ (m : Nat) (w0 : Int32) (w1 : Int32) (w2 : Int32) (w3 : Int32) (w4 : Int32) (w5 : Int32) (w6 : Int32), zX8_weightBy_53 k23 m w0 w1 w2 w3 w4 w5 w6 b = zX8_weightBy_53 k23 m w0 w1 w2 w3 w4 w5 w6 a := by
  intro m
  induction m with
  | zero => intros; simp only [zX8_weightBy_53]
  | succ m ih => intros; simp only [zX8_weightBy_53, zz_v, zw_s h, Nat.reduceAdd, Nat.add_zero, zw_zX7_get h, zw_zX2_slotOf h, zw_zX2_isDueAt h, zw_zX7_isAtBy h, zX8_weightBy_108, eq_self, implies_true, hk23, ih]
theorem zw_zX8_weightBy_23 {a b : zz_T} (h : zw_E a b) : ∀ (m : Nat) (w0 : Int32) (w1 : Int32) (w2 : Int32) (w3 : Int32) (w4 : Int32), zX8_weightBy_23 m w0 w1 w2 w3 w4 b = zX8_weightBy_23 m w0 w1 w2 w3 w4 a := by
  intro m
  induction m with
  | zero => intros; simp only [zX8_weightBy_23]
  | succ m ih => intros; simp only [zX8_weightBy_23, zz_v, zw_s h, zw_zX7_weightOf h, zw_zX7_get h, zw_zX7_count h, zw_zX8_weightBy_53 h, eq_self, implies_true, ih]
theorem zw_zX8_weightBy {a b : zz_T} (h : zw_E a b) (w0 : Int32) (w1 : Int32) : zX8_weightBy w0 w1 b = zX8_weightBy w0 w1 a := by
  simp only [zX8_weightBy, zz_v, zw_s h, zw_zX3_get h, zw_zX8_weightBy_23 h, eq_self, implies_true]
theorem zw_zX8_digestSectors_14 {a b : zz_T} (h : zw_E a b) (k5 : Int64 → Int32 → zz_T → Option Int64) (hk5 : ∀ (x0 : Int64) (x1 : Int32), k5 x0 x1 b = k5 x0 x1 a) : ∀ (m : Nat) (w0 : Int64) (w1 : Int32) (w2 : Int32), zX8_digestSectors_14 k5 m w0 w1 w2 b = zX8_digestSectors_14 k5 m w0 w1 w2 a := by
  intro m
  induction m with
  | zero => intros; simp only [zX8_digestSectors_14]
  | succ m ih => intros; simp only [zX8_digestSectors_14, zz_v, zw_s h, zw_zX8_sectorFact h, zw_zX8_weightBy h, eq_self, implies_true, hk5, ih]
theorem zw_zX8_digestSectors_5 {a b : zz_T} (h : zw_E a b) : ∀ (m : Nat) (w0 : Int64) (w1 : Int32), zX8_digestSectors_5 m w0 w1 b = zX8_digestSectors_5 m w0 w1 a := by
  intro m
  induction m with
  | zero => intros; simp only [zX8_digestSectors_5]
  | succ m ih => intros; simp only [zX8_digestSectors_5, zz_v, zw_s h, zw_zX8_digestSectors_14 h, eq_self, implies_true, ih]
theorem zw_zX8_digestSectors {a b : zz_T} (h : zw_E a b) (w0 : Int64) : zX8_digestSectors w0 b = zX8_digestSectors w0 a := by
  simp only [zX8_digestSectors, zz_v, zw_s h, zw_zX8_digestSectors_5 h, eq_self, implies_true]
theorem zw_zX6_count {a b : zz_T} (h : zw_E a b)  : zX6_count b = zX6_count a := by
  simp only [zX6_count, zz_v, zw_s h, eq_self, implies_true]
theorem zw_zX6_isComing_2 {a b : zz_T} (h : zw_E a b) : ∀ (m : Nat) (w0 : Int32) (w1 : Int32) (w2 : Int32), zX6_isComing_2 m w0 w1 w2 b = zX6_isComing_2 m w0 w1 w2 a := by
  intro m
  induction m with
  | zero => intros; simp only [zX6_isComing_2]
  | succ m ih => intros; simp only [zX6_isComing_2, zz_v, zw_g16 h, zw_s h, zw_zX6_isOn h, eq_self, implies_true, ih]
theorem zw_zX6_isComing {a b : zz_T} (h : zw_E a b) (w0 : Int32) (w1 : Int32) : zX6_isComing w0 w1 b = zX6_isComing w0 w1 a := by
  simp only [zX6_isComing, zz_v, zw_s h, zw_zX6_isComing_2 h, eq_self, implies_true]
theorem zw_zX6_isTaken_3 {a b : zz_T} (h : zw_E a b) : ∀ (m : Nat) (w0 : Int32) (w1 : Int32) (w2 : Int32) (w3 : Bool) (w4 : Int32), zX6_isTaken_3 m w0 w1 w2 w3 w4 b = zX6_isTaken_3 m w0 w1 w2 w3 w4 a := by
  intro m
  induction m with
  | zero => intros; simp only [zX6_isTaken_3]
  | succ m ih => intros; simp only [zX6_isTaken_3, zz_v, zw_g16 h, zw_s h, zw_zX6_isOn h, eq_self, implies_true, ih]
theorem zw_zX6_isTaken {a b : zz_T} (h : zw_E a b) (w0 : Int32) (w1 : Int32) (w2 : Int32) (w3 : Bool) : zX6_isTaken w0 w1 w2 w3 b = zX6_isTaken w0 w1 w2 w3 a := by
  simp only [zX6_isTaken, zz_v, zw_s h, zw_zX6_isTaken_3 h, eq_self, implies_true]
theorem zw_zX6_waitAtStation_149 {a b : zz_T} (h : zw_E a b) (w0 : Int32) (w1 : Bool) (w2 : Bool) (w3 : Int32) : zX6_waitAtStation_149 w0 w1 w2 w3 b = zX6_waitAtStation_149 w0 w1 w2 w3 a := by
  simp only [zX6_waitAtStation_149, zz_v, zw_s h, zw_zX6_isComing h, zw_zX6_isTaken h, eq_self, implies_true]
theorem zw_zX6_waitAtStation_128 {a b : zz_T} (h : zw_E a b) (w0 : Int32) (w1 : Bool) (w2 : Bool) : zX6_waitAtStation_128 w0 w1 w2 b = zX6_waitAtStation_128 w0 w1 w2 a := by
  simp only [zX6_waitAtStation_128, zz_v, zw_s h, zw_zX1_getLine h, zw_zX6_waitAtStation_149 h, eq_self, implies_true]
theorem zw_zX6_waitAtStation {a b : zz_T} (h : zw_E a b) (w0 : Int32) : zX6_waitAtStation w0 b = zX6_waitAtStation w0 a := by
  simp only [zX6_waitAtStation, zz_v, zw_g16 h, zw_s h, zw_zX1_firstOf h, zw_zX1_getLine h, zw_zX1_getStation h, zw_zX1_isDouble h, zw_zX6_countUnloadingAt h, zw_zX6_waitAtStation_128 h, eq_self, implies_true]
theorem zw_zX6_nextBlock {a b : zz_T} (h : zw_E a b) (w0 : Int32) : zX6_nextBlock w0 b = zX6_nextBlock w0 a := by
  simp only [zX6_nextBlock, zz_v, zw_g16 h, zw_s h, eq_self, implies_true]
theorem zw_zX6_waitOnBlock_81 {a b : zz_T} (h : zw_E a b) (w0 : Int32) (w1 : Bool) : zX6_waitOnBlock_81 w0 w1 b = zX6_waitOnBlock_81 w0 w1 a := by
  simp only [zX6_waitOnBlock_81, zz_v, zw_s h, zw_zX1_endOf h, zw_zX1_getStation h, zw_zX6_countAt h, eq_self, implies_true]
theorem zw_zX6_waitOnBlock {a b : zz_T} (h : zw_E a b) (w0 : Int32) : zX6_waitOnBlock w0 b = zX6_waitOnBlock w0 a := by
  simp only [zX6_waitOnBlock, zz_v, zw_g16 h, zw_s h, zw_zX1_getLine h, zw_zX1_isDouble h, zw_zX6_isTaken h, zw_zX6_nextBlock h, zw_zX6_waitOnBlock_81 h, eq_self, implies_true]
theorem zw_zX6_waitOf {a b : zz_T} (h : zw_E a b) (w0 : Int32) : zX6_waitOf w0 b = zX6_waitOf w0 a := by
  simp only [zX6_waitOf, zz_v, zw_g16 h, zw_s h, zw_zX6_waitAtStation h, zw_zX6_waitOnBlock h, eq_self, implies_true]
theorem zw_zX6_get {a b : zz_T} (h : zw_E a b) (w0 : Int32) (w1 : Int32) : zX6_get w0 w1 b = zX6_get w0 w1 a := by
  simp only [zX6_get, zz_v, zw_g16 h, zw_s h, eq_self, implies_true]
theorem zw_zX6_lateOf {a b : zz_T} (h : zw_E a b) (w0 : Int32) (w1 : Int32) : zX6_lateOf w0 w1 b = zX6_lateOf w0 w1 a := by
  simp only [zX6_lateOf, zz_v, zw_g16 h, zw_s h, eq_self, implies_true]
theorem zw_zX8_trainFact {a b : zz_T} (h : zw_E a b) (w0 : Int32) (w1 : Int32) : zX8_trainFact w0 w1 b = zX8_trainFact w0 w1 a := by
  simp only [zX8_trainFact, zz_v, zw_s h, zw_zX6_get h, zw_zX6_lateOf h, eq_self, implies_true]
theorem zw_zX8_digestTrains_20 {a b : zz_T} (h : zw_E a b) (k5 : Int64 → Int32 → zz_T → Option Int64) (hk5 : ∀ (x0 : Int64) (x1 : Int32), k5 x0 x1 b = k5 x0 x1 a) : ∀ (m : Nat) (w0 : Int64) (w1 : Int32) (w2 : Int32), zX8_digestTrains_20 k5 m w0 w1 w2 b = zX8_digestTrains_20 k5 m w0 w1 w2 a := by
  intro m
  induction m with
  | zero => intros; simp only [zX8_digestTrains_20]
  | succ m ih => intros; simp only [zX8_digestTrains_20, zz_v, zw_s h, zw_zX6_waitOf h, zw_zX8_trainFact h, eq_self, implies_true, hk5, ih]
theorem zw_zX8_digestTrains_5 {a b : zz_T} (h : zw_E a b) : ∀ (m : Nat) (w0 : Int64) (w1 : Int32), zX8_digestTrains_5 m w0 w1 b = zX8_digestTrains_5 m w0 w1 a := by
  intro m
  induction m with
  | zero => intros; simp only [zX8_digestTrains_5]
  | succ m ih => intros; simp only [zX8_digestTrains_5, zz_v, zw_s h, zw_zX6_count h, zw_zX8_digestTrains_20 h, eq_self, implies_true, ih]
theorem zw_zX8_digestTrains {a b : zz_T} (h : zw_E a b) (w0 : Int64) : zX8_digestTrains w0 b = zX8_digestTrains w0 a := by
  simp only [zX8_digestTrains, zz_v, zw_s h, zw_zX8_digestTrains_5 h, eq_self, implies_true]
theorem zw_zX2_get {a b : zz_T} (h : zw_E a b) (w0 : Int32) (w1 : Int32) : zX2_get 6 w0 w1 b = zX2_get 6 w0 w1 a := by
  simp only [zX2_get, zz_v, zw_g6 h, zw_g7 h, zw_g8 h, zw_g9 h, zw_g10 h, zw_s h, Nat.reduceAdd, Nat.add_zero, eq_self, implies_true]
theorem zw_zX8_pathFact {a b : zz_T} (h : zw_E a b) (w0 : Int32) (w1 : Int32) : zX8_pathFact w0 w1 b = zX8_pathFact w0 w1 a := by
  simp only [zX8_pathFact, zz_v, zw_s h, Nat.reduceAdd, Nat.add_zero, zw_zX2_isKept h, zw_zX2_arrivesOf h, zw_zX2_get h, eq_self, implies_true]
theorem zw_zX7_ticksToStop {a b : zz_T} (h : zw_E a b) (w0 : Int32) (w1 : Int32) : zX7_ticksToStop w0 w1 b = zX7_ticksToStop w0 w1 a := by
  simp only [zX7_ticksToStop, zz_v, zw_g4 h, zw_s h, eq_self, implies_true]
theorem zw_zX8_unitFact_43 {a b : zz_T} (h : zw_E a b) : ∀ (m : Nat) (w0 : Int32) (w1 : Int32) (w2 : Int32) (w3 : Int32) (w4 : Int32), zX8_unitFact_43 m w0 w1 w2 w3 w4 b = zX8_unitFact_43 m w0 w1 w2 w3 w4 a := by
  intro m
  induction m with
  | zero => intros; simp only [zX8_unitFact_43]
  | succ m ih => intros; simp only [zX8_unitFact_43, zz_v, zw_s h, Nat.reduceAdd, Nat.add_zero, zw_zX7_get h, zw_zX2_slotOf h, zw_zX2_isKept h, zw_zX2_arrivesOf h, eq_self, implies_true, ih]
theorem zw_zX8_unitFact {a b : zz_T} (h : zw_E a b) (w0 : Int32) (w1 : Int32) : zX8_unitFact w0 w1 b = zX8_unitFact w0 w1 a := by
  simp only [zX8_unitFact, zz_v, zw_s h, zw_zX7_get h, zw_zX7_ticksToStop h, zw_zX8_unitFact_43 h, eq_self, implies_true]
theorem zw_zX8_digestUnits_70 {a b : zz_T} (h : zw_E a b) (k5 : Int64 → Int32 → zz_T → Option Int64) (k52 : Int64 → Int32 → Int32 → zz_T → Option Int64) (hk5 : ∀ (x0 : Int64) (x1 : Int32), k5 x0 x1 b = k5 x0 x1 a) (hk52 : ∀ (x0 : Int64) (x1 : Int32) (x2 : Int32), k52 x0 x1 x2 b = k52 x0 x1 x2 a) : ∀ (m : Nat) (w0 : Int64) (w1 : Int32) (w2 : Int32) (w3 : Int32), zX8_digestUnits_70 k5 k52 m w0 w1 w2 w3 b = zX8_digestUnits_70 k5 k52 m w0 w1 w2 w3 a := by
  intro m
  induction m with
  | zero => intros; simp only [zX8_digestUnits_70]
  | succ m ih => intros; simp only [zX8_digestUnits_70, zz_v, zw_s h, zw_zX2_slotOf h, zw_zX8_pathFact h, eq_self, implies_true, hk5, hk52, ih]
theorem zw_zX8_digestUnits_52 {a b : zz_T} (h : zw_E a b) (k5 : Int64 → Int32 → zz_T → Option Int64) (hk5 : ∀ (x0 : Int64) (x1 : Int32), k5 x0 x1 b = k5 x0 x1 a) : ∀ (m : Nat) (w0 : Int64) (w1 : Int32) (w2 : Int32), zX8_digestUnits_52 k5 m w0 w1 w2 b = zX8_digestUnits_52 k5 m w0 w1 w2 a := by
  intro m
  induction m with
  | zero => intros; simp only [zX8_digestUnits_52]
  | succ m ih => intros; simp only [zX8_digestUnits_52, zz_v, zw_s h, zw_zX7_get h, zw_zX8_digestUnits_70 h, eq_self, implies_true, hk5, ih]
theorem zw_zX8_digestUnits_20 {a b : zz_T} (h : zw_E a b) (k5 : Int64 → Int32 → zz_T → Option Int64) (hk5 : ∀ (x0 : Int64) (x1 : Int32), k5 x0 x1 b = k5 x0 x1 a) : ∀ (m : Nat) (w0 : Int64) (w1 : Int32) (w2 : Int32), zX8_digestUnits_20 k5 m w0 w1 w2 b = zX8_digestUnits_20 k5 m w0 w1 w2 a := by
  intro m
  induction m with
  | zero => intros; simp only [zX8_digestUnits_20]
  | succ m ih => intros; simp only [zX8_digestUnits_20, zz_v, zw_s h, zw_zX8_unitFact h, zw_zX8_digestUnits_52 h, eq_self, implies_true, hk5, ih]
theorem zw_zX8_digestUnits_5 {a b : zz_T} (h : zw_E a b) : ∀ (m : Nat) (w0 : Int64) (w1 : Int32), zX8_digestUnits_5 m w0 w1 b = zX8_digestUnits_5 m w0 w1 a := by
  intro m
  induction m with
  | zero => intros; simp only [zX8_digestUnits_5]
  | succ m ih => intros; simp only [zX8_digestUnits_5, zz_v, zw_s h, zw_zX7_count h, zw_zX8_digestUnits_20 h, eq_self, implies_true, ih]
theorem zw_zX8_digestUnits {a b : zz_T} (h : zw_E a b) (w0 : Int64) : zX8_digestUnits w0 b = zX8_digestUnits w0 a := by
  simp only [zX8_digestUnits, zz_v, zw_s h, zw_zX8_digestUnits_5 h, eq_self, implies_true]
theorem zw_zX2_areApart_2 {a b : zz_T} (h : zw_E a b) : ∀ (m : Nat) (w0 : Int32), zX2_areApart_2 6 m w0 b = zX2_areApart_2 6 m w0 a := by
  intro m
  induction m with
  | zero => intros; simp only [zX2_areApart_2]
  | succ m ih => intros; simp only [zX2_areApart_2, zz_v, zw_g6 h, zw_g7 h, zw_g8 h, zw_g9 h, zw_g10 h, zw_s h, Nat.reduceAdd, Nat.add_zero, zw_zX2_isKept h, zw_zX2_firstFouledLine h, eq_self, implies_true, ih]
theorem zw_zX2_areApart {a b : zz_T} (h : zw_E a b)  : zX2_areApart 6 b = zX2_areApart 6 a := by
  simp only [zX2_areApart, zz_v, zw_g6 h, zw_g7 h, zw_g8 h, zw_g9 h, zw_g10 h, zw_s h, Nat.reduceAdd, Nat.add_zero, zw_zX2_areApart_2 h, eq_self, implies_true]
theorem zw_zX6_clash_28 {a b : zz_T} (h : zw_E a b) (w0 : Int32) (w1 : Int32) (w2 : Bool) (w3 : Bool) : zX6_clash_28 w0 w1 w2 w3 b = zX6_clash_28 w0 w1 w2 w3 a := by
  simp only [zX6_clash_28, zz_v, zw_g16 h, zw_s h, eq_self, implies_true]
theorem zw_zX6_clash {a b : zz_T} (h : zw_E a b) (w0 : Int32) (w1 : Int32) (w2 : Bool) : zX6_clash w0 w1 w2 b = zX6_clash w0 w1 w2 a := by
  simp only [zX6_clash, zz_v, zw_g16 h, zw_s h, zw_zX6_clash_28 h, eq_self, implies_true]
theorem zw_zX6_areApart_25 {a b : zz_T} (h : zw_E a b) (k2 : Int32 → zz_T → Option Bool) (hk2 : ∀ (x0 : Int32), k2 x0 b = k2 x0 a) : ∀ (m : Nat) (w0 : Int32) (w1 : Int32) (w2 : Int32), zX6_areApart_25 k2 m w0 w1 w2 b = zX6_areApart_25 k2 m w0 w1 w2 a := by
  intro m
  induction m with
  | zero => intros; simp only [zX6_areApart_25]
  | succ m ih => intros; simp only [zX6_areApart_25, zz_v, zw_s h, zw_zX1_isDouble h, zw_zX6_isOn h, zw_zX6_clash h, eq_self, implies_true, hk2, ih]
theorem zw_zX6_areApart_2 {a b : zz_T} (h : zw_E a b) : ∀ (m : Nat) (w0 : Int32), zX6_areApart_2 m w0 b = zX6_areApart_2 m w0 a := by
  intro m
  induction m with
  | zero => intros; simp only [zX6_areApart_2]
  | succ m ih => intros; simp only [zX6_areApart_2, zz_v, zw_g16 h, zw_s h, zw_zX6_areApart_25 h, eq_self, implies_true, ih]
theorem zw_zX6_areApart {a b : zz_T} (h : zw_E a b)  : zX6_areApart b = zX6_areApart a := by
  simp only [zX6_areApart, zz_v, zw_s h, zw_zX6_areApart_2 h, eq_self, implies_true]
theorem zw_zX7_areSound_2 {a b : zz_T} (h : zw_E a b) : ∀ (m : Nat) (w0 : Int32), zX7_areSound_2 m w0 b = zX7_areSound_2 m w0 a := by
  intro m
  induction m with
  | zero => intros; simp only [zX7_areSound_2]
  | succ m ih => intros; simp only [zX7_areSound_2, zz_v, zw_g4 h, zw_s h, eq_self, implies_true, ih]
theorem zw_zX7_areSound {a b : zz_T} (h : zw_E a b)  : zX7_areSound b = zX7_areSound a := by
  simp only [zX7_areSound, zz_v, zw_s h, zw_zX7_areSound_2 h, eq_self, implies_true]
theorem zw_zX6_countGuestsAt_4 {a b : zz_T} (h : zw_E a b) : ∀ (m : Nat) (w0 : Int32) (w1 : Int32) (w2 : Int32), zX6_countGuestsAt_4 m w0 w1 w2 b = zX6_countGuestsAt_4 m w0 w1 w2 a := by
  intro m
  induction m with
  | zero => intros; simp only [zX6_countGuestsAt_4]
  | succ m ih => intros; simp only [zX6_countGuestsAt_4, zz_v, zw_g16 h, zw_s h, zw_zX6_isAt h, eq_self, implies_true, ih]
theorem zw_zX6_countGuestsAt {a b : zz_T} (h : zw_E a b) (w0 : Int32) : zX6_countGuestsAt w0 b = zX6_countGuestsAt w0 a := by
  simp only [zX6_countGuestsAt, zz_v, zw_s h, zw_zX6_countGuestsAt_4 h, eq_self, implies_true]
theorem zw_zX8_areStationsSound_2 {a b : zz_T} (h : zw_E a b) : ∀ (m : Nat) (w0 : Int32), zX8_areStationsSound_2 m w0 b = zX8_areStationsSound_2 m w0 a := by
  intro m
  induction m with
  | zero => intros; simp only [zX8_areStationsSound_2]
  | succ m ih => intros; simp only [zX8_areStationsSound_2, zz_v, zw_s h, zw_zX1_getStation h, zw_zX1_countStations h, zw_zX6_countUnloadingAt h, zw_zX6_countGuestsAt h, eq_self, implies_true, ih]
theorem zw_zX8_areStationsSound {a b : zz_T} (h : zw_E a b)  : zX8_areStationsSound b = zX8_areStationsSound a := by
  simp only [zX8_areStationsSound, zz_v, zw_s h, zw_zX8_areStationsSound_2 h, eq_self, implies_true]
theorem zw_zX8_isWholeSound {a b : zz_T} (h : zw_E a b)  : zX8_isWholeSound b = zX8_isWholeSound a := by
  simp only [zX8_isWholeSound, zz_v, zw_s h, Nat.reduceAdd, Nat.add_zero, zw_zX2_areApart h, zw_zX6_areApart h, zw_zX7_areSound h, zw_zX8_areStationsSound h, eq_self, implies_true]
theorem zw_zX0_count {a b : zz_T} (h : zw_E a b)  : zX0_count b = zX0_count a := by
  simp only [zX0_count, zz_v, zw_g21 h, zw_s h, eq_self, implies_true]
theorem zw_zX2_countKept_4 {a b : zz_T} (h : zw_E a b) : ∀ (m : Nat) (w0 : Int32) (w1 : Int32), zX2_countKept_4 6 m w0 w1 b = zX2_countKept_4 6 m w0 w1 a := by
  intro m
  induction m with
  | zero => intros; simp only [zX2_countKept_4]
  | succ m ih => intros; simp only [zX2_countKept_4, zz_v, zw_g6 h, zw_g7 h, zw_g8 h, zw_g9 h, zw_g10 h, zw_s h, Nat.reduceAdd, Nat.add_zero, zw_zX2_isKept h, eq_self, implies_true, ih]
theorem zw_zX2_countKept {a b : zz_T} (h : zw_E a b)  : zX2_countKept 6 b = zX2_countKept 6 a := by
  simp only [zX2_countKept, zz_v, zw_g6 h, zw_g7 h, zw_g8 h, zw_g9 h, zw_g10 h, zw_s h, Nat.reduceAdd, Nat.add_zero, zw_zX2_countKept_4 h, eq_self, implies_true]
theorem zw_zX4_count_4 {a b : zz_T} (h : zw_E a b) : ∀ (m : Nat) (w0 : Int32) (w1 : Int32), zX4_count_4 m w0 w1 b = zX4_count_4 m w0 w1 a := by
  intro m
  induction m with
  | zero => intros; simp only [zX4_count_4]
  | succ m ih => intros; simp only [zX4_count_4, zz_v, zw_g18 h, zw_s h, eq_self, implies_true, ih]
theorem zw_zX4_count {a b : zz_T} (h : zw_E a b)  : zX4_count b = zX4_count a := by
  simp only [zX4_count, zz_v, zw_s h, zw_zX4_count_4 h, eq_self, implies_true]
theorem zw_zX6_countDone_4 {a b : zz_T} (h : zw_E a b) : ∀ (m : Nat) (w0 : Int32) (w1 : Int32), zX6_countDone_4 m w0 w1 b = zX6_countDone_4 m w0 w1 a := by
  intro m
  induction m with
  | zero => intros; simp only [zX6_countDone_4]
  | succ m ih => intros; simp only [zX6_countDone_4, zz_v, zw_g16 h, zw_s h, eq_self, implies_true, ih]
theorem zw_zX6_countDone {a b : zz_T} (h : zw_E a b)  : zX6_countDone b = zX6_countDone a := by
  simp only [zX6_countDone, zz_v, zw_s h, zw_zX6_countDone_4 h, eq_self, implies_true]
theorem zw_zX6_greatestLate_4 {a b : zz_T} (h : zw_E a b) : ∀ (m : Nat) (w0 : Int32) (w1 : Int32) (w2 : Int32), zX6_greatestLate_4 m w0 w1 w2 b = zX6_greatestLate_4 m w0 w1 w2 a := by
  intro m
  induction m with
  | zero => intros; simp only [zX6_greatestLate_4]
  | succ m ih => intros; simp only [zX6_greatestLate_4, zz_v, zw_s h, zw_zX6_lateOf h, eq_self, implies_true, ih]
theorem zw_zX6_greatestLate {a b : zz_T} (h : zw_E a b) (w0 : Int32) : zX6_greatestLate w0 b = zX6_greatestLate w0 a := by
  simp only [zX6_greatestLate, zz_v, zw_s h, zw_zX6_greatestLate_4 h, eq_self, implies_true]
theorem zw_zX7_countWires_4 {a b : zz_T} (h : zw_E a b) : ∀ (m : Nat) (w0 : Int32) (w1 : Int32), zX7_countWires_4 m w0 w1 b = zX7_countWires_4 m w0 w1 a := by
  intro m
  induction m with
  | zero => intros; simp only [zX7_countWires_4]
  | succ m ih => intros; simp only [zX7_countWires_4, zz_v, zw_g4 h, zw_s h, zX7_countWires_32, eq_self, implies_true, ih]
theorem zw_zX7_countWires {a b : zz_T} (h : zw_E a b)  : zX7_countWires b = zX7_countWires a := by
  simp only [zX7_countWires, zz_v, zw_s h, zw_zX7_countWires_4 h, eq_self, implies_true]
theorem zw_zX7_sumOf_4 {a b : zz_T} (h : zw_E a b) : ∀ (m : Nat) (w0 : Int32) (w1 : Int32) (w2 : Int32), zX7_sumOf_4 m w0 w1 w2 b = zX7_sumOf_4 m w0 w1 w2 a := by
  intro m
  induction m with
  | zero => intros; simp only [zX7_sumOf_4]
  | succ m ih => intros; simp only [zX7_sumOf_4, zz_v, zw_g4 h, zw_s h, eq_self, implies_true, ih]
theorem zw_zX7_sumOf {a b : zz_T} (h : zw_E a b) (w0 : Int32) : zX7_sumOf w0 b = zX7_sumOf w0 a := by
  simp only [zX7_sumOf, zz_v, zw_s h, zw_zX7_sumOf_4 h, eq_self, implies_true]
theorem zw_zX8_manyFact {a b : zz_T} (h : zw_E a b) (w0 : Int32) : zX8_manyFact w0 b = zX8_manyFact w0 a := by
  simp only [zX8_manyFact, zz_v, zw_s h, Nat.reduceAdd, Nat.add_zero, zw_zX8_day h, zw_zX1_countLines h, zw_zX1_countStations h, zw_zX7_count h, zw_zX6_count h, zw_zX0_count h, zw_zX2_countKept h, zw_zX4_count h, zw_zX6_countDone h, zw_zX6_greatestLate h, zw_zX7_countWires h, zw_zX7_sumOf h, eq_self, implies_true]
theorem zw_zX8_digest_6 {a b : zz_T} (h : zw_E a b) : ∀ (m : Nat) (w0 : Int64) (w1 : Int32), zX8_digest_6 m w0 w1 b = zX8_digest_6 m w0 w1 a := by
  intro m
  induction m with
  | zero => intros; simp only [zX8_digest_6]
  | succ m ih => intros; simp only [zX8_digest_6, zz_v, zw_s h, zw_zX0_guessOn h, zw_zX8_day h, zw_zX8_digestLand h, zw_zX8_digestSectors h, zw_zX8_digestTrains h, zw_zX8_digestUnits h, zw_zX8_isWholeSound h, zw_zX8_manyFact h, eq_self, implies_true, ih]
theorem zw_zX8_digest {a b : zz_T} (h : zw_E a b)  : zX8_digest b = zX8_digest a := by
  simp only [zX8_digest, zz_v, zw_s h, zw_zX8_digest_6 h, eq_self, implies_true]
theorem zw_zX8_many {a b : zz_T} (h : zw_E a b) (w0 : Int32) : zX8_many w0 b = zX8_many w0 a := by
  simp only [zX8_many, zz_v, zw_s h, zw_zX8_manyFact h, eq_self, implies_true]
theorem zw_zX8_isNoSector {a b : zz_T} (h : zw_E a b) (w0 : Int32) : zX8_isNoSector w0 b = zX8_isNoSector w0 a := by
  simp only [zX8_isNoSector, zz_v, zw_s h, eq_self, implies_true]
theorem zw_zX8_ofSector {a b : zz_T} (h : zw_E a b) (w0 : Int32) (w1 : Int32) : zX8_ofSector w0 w1 b = zX8_ofSector w0 w1 a := by
  simp only [zX8_ofSector, zz_v, zw_s h, zw_zX8_sectorFact h, zw_zX8_isNoSector h, eq_self, implies_true]
theorem zw_zX8_ofUnit {a b : zz_T} (h : zw_E a b) (w0 : Int32) (w1 : Int32) : zX8_ofUnit w0 w1 b = zX8_ofUnit w0 w1 a := by
  simp only [zX8_ofUnit, zz_v, zw_s h, zw_zX7_has h, zw_zX8_unitFact h, eq_self, implies_true]
