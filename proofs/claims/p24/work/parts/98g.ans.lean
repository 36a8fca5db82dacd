section P24G
variable {B D r r' : Nat} {S T M Z : STT}
-- the seats
def cb (g : Nat → Int32) : Nat → Nat
  | 0 => 0
  | k + 1 => cb g k + (if g k < 0 then 0 else 1)
def cs (g : Nat → Int32) (m : Nat) : Nat → Nat
  | 0 => 0
  | n + 1 => cs g m n + c12 g (nI n) m
theorem cs_z (g : Nat → Int32) : ∀ n, cs g 0 n = 0 := by
  intro n
  induction n with
  | zero => rfl
  | succ n ih => show cs g 0 n + 0 = 0; omega
theorem cs_s (g : Nat → Int32) (m : Nat) : ∀ n, n ≤ 20 → cs g (m + 1) n = cs g m n + (if 0 ≤ (g m).toInt ∧ (g m).toInt < n then 1 else 0) := by
  intro n
  induction n with
  | zero => intro _; rw [if_neg (fun z => by omega)]; rfl
  | succ n ih =>
    intro hn
    show cs g (m + 1) n + (c12 g (nI n) m + (if g m = nI n then 1 else 0)) = cs g m n + c12 g (nI n) m + _
    rw [ih (by omega)]
    have e : (g m = nI n) ↔ (g m).toInt = n := by rw [← Int32.toInt_inj, nI_toInt (by omega)]
    by_cases c : (g m).toInt = n
    · rw [if_pos (e.mpr c), if_pos (show 0 ≤ (g m).toInt ∧ (g m).toInt < ((n + 1 : Nat) : Int) by omega), if_neg (fun z => by omega)]; omega
    · rw [if_neg (fun z => c (e.mp z))]
      by_cases d : 0 ≤ (g m).toInt ∧ (g m).toInt < n
      · rw [if_pos d, if_pos (show 0 ≤ (g m).toInt ∧ (g m).toInt < ((n + 1 : Nat) : Int) by omega)]; omega
      · rw [if_neg d, if_neg (fun z => by omega)]; omega
theorem cs_cb {g : Nat → Int32} {n : Nat} (hn : n ≤ 20) (h : ∀ k, k < 12 → g k = -1 ∨ (0 ≤ (g k).toInt ∧ (g k).toInt < n)) : ∀ m, m ≤ 12 → cs g m n = cb g m := by
  intro m
  induction m with
  | zero => intro _; exact cs_z g n
  | succ m ih =>
    intro hm
    rw [cs_s g m n hn, ih (by omega)]
    show _ = cb g m + (if g m < 0 then 0 else 1)
    rcases h m (by omega) with c | c
    · rw [c, if_neg (fun z => by have := m1_i; omega), if_pos (by decide)]
    · rw [if_pos c, if_neg (by rw [Int32.lt_iff_toInt_lt, z_i]; omega)]
def cJs (g : Nat → Nat → Int32) (J : Nat) : Nat → Nat
  | 0 => 0
  | n + 1 => cJs g J n + cJ g (nI n) J
theorem cJs_z (g : Nat → Nat → Int32) : ∀ n, cJs g 0 n = 0 := by
  intro n
  induction n with
  | zero => rfl
  | succ n ih => show cJs g 0 n + 0 = 0; omega
theorem cJs_s (g : Nat → Nat → Int32) (J : Nat) : ∀ n, cJs g (J + 1) n = cJs g J n + cs (g J) 12 n := by
  intro n
  induction n with
  | zero => rfl
  | succ n ih =>
    show cJs g (J + 1) n + (cJ g (nI n) J + c12 (g J) (nI n) 12) = cJs g J n + cJ g (nI n) J + (cs (g J) 12 n + c12 (g J) (nI n) 12)
    omega
/-- how many are booked by the first j -/
def sJ (S : STT) : Nat → Nat
  | 0 => 0
  | j + 1 => sJ S j + cb (S 27 j) 12
theorem sJ_le (S : STT) : ∀ j, sJ S j ≤ 12 * j := by
  have a : ∀ g m, cb g m ≤ m := by
    intro g m
    induction m with
    | zero => exact Nat.le_refl _
    | succ m ih => show cb g m + (if g m < 0 then 0 else 1) ≤ m + 1; split <;> omega
  intro j
  induction j with
  | zero => exact Nat.le_refl _
  | succ j ih => show sJ S j + cb (S 27 j) 12 ≤ _; have := a (S 27 j) 12; omega
theorem cJs_sJ (hC : RC B D S S) : ∀ J, J ≤ (S 0 0 0).toNatClampNeg → cJs (S 27) J (S 3 0 0).toNatClampNeg = sJ S J := by
  have v := hC.iv
  have c3 := cnt_i v.ci.2.2.2.1.1
  intro J
  induction J with
  | zero => intro _; exact cJs_z _ _
  | succ J ih =>
    intro hJ
    rw [cJs_s, ih (by omega), cs_cb v.e20 (fun k hk => (v.bk J (by omega) k hk).imp id fun y => ⟨y.1, by omega⟩) 12 (Nat.le_refl _)]
    rfl
theorem taken_lp (hC : RC B D S S) : ∀ k i, i + k ≤ 20 → lp_X4_seatsTaken_4 S k i (nI (cJs (S 27) (S 0 0 0).toNatClampNeg i)) = nI (cJs (S 27) (S 0 0 0).toNatClampNeg (i + k)) := by
  intro k
  induction k with
  | zero => intro i _; rfl
  | succ k ih =>
    intro i h
    show lp_X4_seatsTaken_4 S k (i + 1) (nI (cJs (S 27) (S 0 0 0).toNatClampNeg i) + S 20 0 i) = _
    rw [hC.tk i (by omega), nI_add]
    have := ih (i + 1) (by omega)
    rw [show i + 1 + k = i + (k + 1) by omega] at this
    exact this
theorem seats_fair (hC : RC B D S S) : sp_X4_seatsTaken S = nI (sJ S (S 0 0 0).toNatClampNeg) := by
  unfold sp_X4_seatsTaken
  have := taken_lp hC (S 3 0 0).toNatClampNeg 0 (by have := hC.iv.e20; omega)
  rw [Nat.zero_add, cJs_sJ hC _ (Nat.le_refl _)] at this
  exact this
/-- .. of the first k of one -/
theorem cb_stop (hC : RC B D S S) {j : Nat} (hj : j < (S 0 0 0).toNatClampNeg) : cb (S 27 j) (S 1 0 0).toNatClampNeg = cb (S 27 j) 12 := by
  have hm := hC.iv.m12
  have a : ∀ d, (S 1 0 0).toNatClampNeg + d ≤ 12 → cb (S 27 j) ((S 1 0 0).toNatClampNeg + d) = cb (S 27 j) (S 1 0 0).toNatClampNeg := by
    intro d
    induction d with
    | zero => intro _; rfl
    | succ d ih =>
      intro hd
      show cb (S 27 j) ((S 1 0 0).toNatClampNeg + d) + (if S 27 j ((S 1 0 0).toNatClampNeg + d) < 0 then 0 else 1) = _
      rw [ih (by omega)]
      rcases hC.iv.bk j hj _ (show (S 1 0 0).toNatClampNeg + d < 12 by omega) with y | ⟨-, -, y⟩
      · rw [y, if_pos (by decide), Nat.add_zero]
      · have := hC.iv.js j hj _ y; omega
  have := a (12 - (S 1 0 0).toNatClampNeg) (by omega)
  rw [show (S 1 0 0).toNatClampNeg + (12 - (S 1 0 0).toNatClampNeg) = 12 by omega] at this
  exact this.symm
-- what is done in all
noncomputable def dJ (S : STT) : Nat → Int32
  | 0 => 0
  | j + 1 => dJ S j + sp_X1_countIn S j 2
theorem done_lp : ∀ k i, lp_X5_countStepsIn_4 S 2 k i (dJ S i) = dJ S (i + k) := by
  intro k
  induction k with
  | zero => intro i; rfl
  | succ k ih =>
    intro i
    have := ih (i + 1)
    rw [show i + 1 + k = i + (k + 1) by omega] at this
    exact this
theorem done_fair : sp_X5_countStepsIn S 2 = dJ S (S 0 0 0).toNatClampNeg := by
  unfold sp_X5_countStepsIn
  have := done_lp (S := S) (S 0 0 0).toNatClampNeg 0
  rw [Nat.zero_add] at this
  exact this
-- what the asking calls answer
theorem a_many (hZ : RLn r Z M) (h : RLn r' S M) {w : Nat} (hw : w < 11) : sp_X5_many_n S (nI w) = sp_X5_many_n Z (nI w) :=
  Option.some.inj ((many_eq h.c.iv h.c.rw h.c.t hw).symm.trans (many_eq hZ.c.iv hZ.c.rw hZ.c.t hw))
theorem a_session (hZ : RLn r Z M) (h : RLn r' S M) {q w : Nat} (hq : q < (Z 3 0 0).toNatClampNeg) (hw : w < 4) : sp_X5_ofSession_n S (nI q) (nI w) = sp_X5_ofSession_n Z (nI q) (nI w) := by
  rw [hZ.c.rw.r3] at hq
  exact Option.some.inj ((ofSessionNow_eq h.c.iv h.c.rw h.c.t hq hw).symm.trans (ofSessionNow_eq hZ.c.iv hZ.c.rw hZ.c.t hq hw))
theorem a_item (hZ : RLn r Z M) (h : RLn r' S M) {q w : Nat} (hq : q < 4) (hw : w < 4) : sp_X5_ofItem_n S (nI q) (nI w) = sp_X5_ofItem_n Z (nI q) (nI w) :=
  Option.some.inj ((ofItemNow_eq h.c.iv h.c.rw h.2.1 hq hw).symm.trans (ofItemNow_eq hZ.c.iv hZ.c.rw hZ.2.1 hq hw))
theorem fore_s (h : RLn r S M) {q : Nat} (hq : q < (M 0 0 0).toNatClampNeg) : FF (sp_X0_foresee S q (S 0 0 1) (-1) 0) M q ∧ RLn r (sp_X0_foresee S q (S 0 0 1) (-1) 0) M := by
  have e : S 0 0 1 = M 0 0 1 := by rw [h.c.rw.r0]
  rw [e]; exact fore h hq
theorem a_step (hZ : RLn r Z M) (h : RLn r' S M) {j k w : Nat} (hj : j < (Z 0 0 0).toNatClampNeg) (hq : qb (Z 6 j 0) k = true) (hw : w < 6) : (sp_X5_ofStep_n S (nI k) (nI w) j).1 = sp_X5_foreseenOfStep (sp_X0_foresee Z j (Z 0 0 1) (-1) 0) j (nI k) (nI w) ∧ RLn r' (sp_X5_ofStep_n S (nI k) (nI w) j).2 M := by
  rw [hZ.c.rw.r0] at hj
  rw [hZ.c.rw.r6] at hq
  rw [un_X5_ofStep_n]; unfold rw_X5_ofStep_n
  obtain ⟨a1, a2⟩ := fore_s h hj
  obtain ⟨b1, -⟩ := fore_s hZ hj
  exact ⟨Option.some.inj ((ofStepNow_eq h.c.iv hj a1 hq hw).symm.trans (ofStepNow_eq hZ.c.iv hj b1 hq hw)), a2⟩
theorem a_joiner (hZ : RLn r Z M) (h : RLn r' S M) {j w : Nat} (hj : j < (Z 0 0 0).toNatClampNeg) (hw : w < 7) : (sp_X5_ofJoiner_n S (nI w) j).1 = sp_X5_foreseenOfJoiner (sp_X0_foresee Z j (Z 0 0 1) (-1) 0) j (nI w) ∧ RLn r' (sp_X5_ofJoiner_n S (nI w) j).2 M := by
  rw [hZ.c.rw.r0] at hj
  rw [un_X5_ofJoiner_n]; unfold rw_X5_ofJoiner_n
  obtain ⟨a1, a2⟩ := fore_s h hj
  obtain ⟨b1, -⟩ := fore_s hZ hj
  exact ⟨Option.some.inj ((ofJoinerNow_eq h.c.iv hj a1 hw).symm.trans (ofJoinerNow_eq hZ.c.iv hj b1 hw)), a2⟩
theorem a_right (hZ : RLn r Z M) (h : RLn r' S M) {j q : Nat} (hj : j < (Z 0 0 0).toNatClampNeg) (hq : q < (Z 1 0 1).toNatClampNeg) : (sp_X5_rightOn_n S (nI q) j).1 = sp_X0_dayBehind (sp_X0_foresee Z j (Z 0 0 1) (-1) 0) (Z 12 0 q) ∧ RLn r' (sp_X5_rightOn_n S (nI q) j).2 M := by
  rw [hZ.c.rw.r0] at hj
  rw [hZ.c.rw.r1] at hq
  rw [un_X5_rightOn_n]; unfold rw_X5_rightOn_n
  obtain ⟨a1, a2⟩ := fore_s h hj
  obtain ⟨b1, -⟩ := fore_s hZ hj
  have hq6 := h.c.iv.r6
  have e := Option.some.inj ((rightOnNow_eq h.c.iv hj a1 hq).symm.trans (rightOnNow_eq hZ.c.iv hj b1 hq))
  rw [hZ.c.rw.r12, ← e, q_cl (by omega), a2.c.rw.r12]
  exact ⟨rfl, a2⟩
-- the same, in words
theorem fore_row (S : STT) (j : Nat) {f : Nat} (h1 : f ≠ 4) (h2 : f ≠ 21) (h3 : f ≠ 22) (h4 : f ≠ 23) : sp_X0_foresee S j (S 0 0 1) (-1) 0 f = S f := by
  rw [un_X0_foresee]; unfold rw_X0_foresee
  obtain ⟨a, -, -⟩ := look_eq S (S 0 0 1) (-1) 0
  have b : ∀ (k i : Nat) (T : STT), i + k = 12 → lp_X0_foresee_11 j (S 0 0 1) (-1) 0 k i T f = T f := by
    intro k
    induction k with
    | zero => intro i T _; rfl
    | succ k ih =>
      intro i T h
      rw [ls_lp_X0_foresee_11, ih (i + 1) _ (by omega), fs_row T j (by omega) h3 h4]
  rw [b 12 0 _ (by omega), a f h1 h2]
section
variable {j k : Nat}
theorem w_s0 (hk : k < 12) : sp_X5_foreseenOfStep (sp_X0_foresee Z j (Z 0 0 1) (-1) 0) j (nI k) 0 = Z 24 j k := by
  unfold sp_X5_foreseenOfStep
  rw [if_neg (q_ge (by omega)), if_pos (lt12 hk), if_pos rfl, q_cl (by omega), fore_row Z j (by decide) (by decide) (by decide) (by decide)]
theorem w_s1 (hk : k < 12) : sp_X5_foreseenOfStep (sp_X0_foresee Z j (Z 0 0 1) (-1) 0) j (nI k) 1 = BX Z j k := by
  unfold sp_X5_foreseenOfStep
  rw [if_neg (q_ge (by omega)), if_pos (lt12 hk), if_neg (by decide), if_pos rfl, q_cl (by omega)]; rfl
theorem w_s2 (hk : k < 12) : sp_X5_foreseenOfStep (sp_X0_foresee Z j (Z 0 0 1) (-1) 0) j (nI k) 2 = EX Z j k := by
  unfold sp_X5_foreseenOfStep
  rw [if_neg (q_ge (by omega)), if_pos (lt12 hk), if_neg (by decide), if_neg (by decide), if_pos rfl, q_cl (by omega)]; rfl
theorem w_s3 (hk : k < 12) : sp_X5_foreseenOfStep (sp_X0_foresee Z j (Z 0 0 1) (-1) 0) j (nI k) 3 = Z 27 j k := by
  unfold sp_X5_foreseenOfStep
  rw [if_neg (q_ge (by omega)), if_pos (lt12 hk), if_neg (by decide), if_neg (by decide), if_neg (by decide), if_pos rfl, q_cl (by omega), fore_row Z j (by decide) (by decide) (by decide) (by decide)]
theorem w_s4 (hk : k < 12) : sp_X5_foreseenOfStep (sp_X0_foresee Z j (Z 0 0 1) (-1) 0) j (nI k) 4 = sp_X2_lengthFor Z j (nI k) := by
  unfold sp_X5_foreseenOfStep
  rw [if_neg (q_ge (by omega)), if_pos (lt12 hk), if_neg (by decide), if_neg (by decide), if_neg (by decide), if_neg (by decide), if_pos rfl]
  exact lengthFor_cong (by rw [fore_row Z j (by decide) (by decide) (by decide) (by decide)]) (fore_row Z j (by decide) (by decide) (by decide) (by decide)) (fore_row Z j (by decide) (by decide) (by decide) (by decide)) (fore_row Z j (by decide) (by decide) (by decide) (by decide)) (by rw [fore_row Z j (by decide) (by decide) (by decide) (by decide)]) (by rw [fore_row Z j (by decide) (by decide) (by decide) (by decide)]) _
theorem w_j0 : sp_X5_foreseenOfJoiner (sp_X0_foresee Z j (Z 0 0 1) (-1) 0) j 0 = Z 6 j 0 := by
  unfold sp_X5_foreseenOfJoiner
  rw [if_pos rfl, fore_row Z j (by decide) (by decide) (by decide) (by decide)]
theorem w_j1 : sp_X5_foreseenOfJoiner (sp_X0_foresee Z j (Z 0 0 1) (-1) 0) j 1 = Z 6 j 1 := by
  unfold sp_X5_foreseenOfJoiner
  rw [if_neg (by decide), if_pos rfl, fore_row Z j (by decide) (by decide) (by decide) (by decide)]
theorem w_j2 : sp_X5_foreseenOfJoiner (sp_X0_foresee Z j (Z 0 0 1) (-1) 0) j 2 = sp_X1_countIn Z j 2 := by
  unfold sp_X5_foreseenOfJoiner
  rw [if_neg (by decide), if_neg (by decide), if_pos rfl]
  exact countIn_cong (by rw [fore_row Z j (by decide) (by decide) (by decide) (by decide)]) (by rw [fore_row Z j (by decide) (by decide) (by decide) (by decide)]) _
theorem w_j3 : sp_X5_foreseenOfJoiner (sp_X0_foresee Z j (Z 0 0 1) (-1) 0) j 3 = sp_X1_countIn Z j 1 := by
  unfold sp_X5_foreseenOfJoiner
  rw [if_neg (by decide), if_neg (by decide), if_neg (by decide), if_pos rfl]
  exact countIn_cong (by rw [fore_row Z j (by decide) (by decide) (by decide) (by decide)]) (by rw [fore_row Z j (by decide) (by decide) (by decide) (by decide)]) _
theorem w_j4 : sp_X5_foreseenOfJoiner (sp_X0_foresee Z j (Z 0 0 1) (-1) 0) j 4 = sp_X2_rightsOf Z j := by
  unfold sp_X5_foreseenOfJoiner
  rw [if_neg (by decide), if_neg (by decide), if_neg (by decide), if_neg (by decide), if_pos rfl]
  exact rightsOf_cong (fore_row Z j (by decide) (by decide) (by decide) (by decide)) (by rw [fore_row Z j (by decide) (by decide) (by decide) (by decide)]) (fore_row Z j (by decide) (by decide) (by decide) (by decide)) (by rw [fore_row Z j (by decide) (by decide) (by decide) (by decide)])
theorem w_j5 : sp_X5_foreseenOfJoiner (sp_X0_foresee Z j (Z 0 0 1) (-1) 0) j 5 = if Z 6 j 2 = 0 then 0 else 1 := by
  unfold sp_X5_foreseenOfJoiner
  rw [if_neg (by decide), if_neg (by decide), if_neg (by decide), if_neg (by decide), if_neg (by decide), if_pos rfl, fore_row Z j (by decide) (by decide) (by decide) (by decide)]
theorem w_j6 : sp_X5_foreseenOfJoiner (sp_X0_foresee Z j (Z 0 0 1) (-1) 0) j 6 = sp_X0_greatestEnd (sp_X0_foresee Z j (Z 0 0 1) (-1) 0) (Z 6 j 0) := by
  unfold sp_X5_foreseenOfJoiner
  rw [if_neg (by decide), if_neg (by decide), if_neg (by decide), if_neg (by decide), if_neg (by decide), if_neg (by decide), fore_row Z j (f := 6) (by decide) (by decide) (by decide) (by decide)]
theorem w_e0 {q : Nat} (hq : q < 20) : sp_X5_ofSession_n Z (nI q) 0 = Z 17 0 q := by
  unfold sp_X5_ofSession_n
  rw [if_pos rfl, q_cl (by omega)]
theorem w_e2 {q : Nat} (hq : q < 20) : sp_X5_ofSession_n Z (nI q) 2 = Z 19 0 q := by
  unfold sp_X5_ofSession_n
  rw [if_neg (by decide), if_neg (by decide), if_pos rfl, q_cl (by omega)]
theorem w_e3 {q : Nat} (hq : q < 20) : sp_X5_ofSession_n Z (nI q) 3 = Z 20 0 q := by
  unfold sp_X5_ofSession_n
  rw [if_neg (by decide), if_neg (by decide), if_neg (by decide), q_cl (by omega)]
theorem w_i0 {q : Nat} (hq : q < 4) : sp_X5_ofItem_n Z (nI q) 0 = Z 13 0 q := by
  unfold sp_X5_ofItem_n
  rw [if_pos rfl, q_cl (by omega)]
theorem w_m2 : sp_X5_many_n Z 2 = Z 2 0 0 := by
  unfold sp_X5_many_n
  rw [if_neg (by decide), if_neg (by decide), if_pos rfl]
theorem w_m3 : sp_X5_many_n Z 3 = Z 3 0 0 := by
  unfold sp_X5_many_n
  rw [if_neg (by decide), if_neg (by decide), if_neg (by decide), if_pos rfl]
theorem w_m4 : sp_X5_many_n Z 4 = Z 0 0 0 := by
  unfold sp_X5_many_n
  rw [if_neg (by decide), if_neg (by decide), if_neg (by decide), if_neg (by decide), if_pos rfl]
theorem w_m6 : sp_X5_many_n Z 6 = sp_X5_countStepsIn Z 2 := by
  unfold sp_X5_many_n
  rw [if_neg (by decide), if_neg (by decide), if_neg (by decide), if_neg (by decide), if_neg (by decide), if_neg (by decide), if_pos rfl]
theorem w_m9 : sp_X5_many_n Z 9 = sp_X4_seatsTaken Z := by
  unfold sp_X5_many_n
  rw [if_neg (by decide), if_neg (by decide), if_neg (by decide), if_neg (by decide), if_neg (by decide), if_neg (by decide), if_neg (by decide), if_neg (by decide), if_neg (by decide), if_pos rfl]
theorem w_m10 : sp_X5_many_n Z 10 = Z 0 0 1 := by
  unfold sp_X5_many_n
  rw [if_neg (by decide), if_neg (by decide), if_neg (by decide), if_neg (by decide), if_neg (by decide), if_neg (by decide), if_neg (by decide), if_neg (by decide), if_neg (by decide), if_neg (by decide)]
end
end P24G
