section P24P

set_option maxHeartbeats 4000000 in
set_option maxRecDepth 100000 in
theorem law_d1 {p : Program} {l : Launch} {e : Env} {R : Room} {s : State} {m : MethodId} {args : Array Value} {below : List Frame} {meth : Method} {c : Code} {Q : State → Prop} {D : va_G} {cI cG cJ cO : ClassId} {K0 : Nat → Nat} {A : Nat → Prop} {L : List (Nat × Nat)} {ad : Nat → Nat → Nat} (F : CallFix p m c cL_law 17 s args BIG RL) (hK : va_K D vwCl (ktys cI cG cJ cO) s) (hO : OW A K0 s) (hL : ∀ f o, cid f o = true → (f, o) ∈ L) (hA : ∀ q, s.heap.size ≤ q → A q) (hst : l.stackTraces = false) (hfr : 8 ≤ R.frames) (hlo : 180 ≤ R.locals) (hRc : 2000 ≤ R.cells) (hRs : 20000 ≤ R.slots) (h1 : K0 1 < 2 ^ 31) (m93 : (93, 0) ∈ L) {ns nr i t J r : Nat} (hi : i < 50) {Z M : STT} (hZ : RLn r Z M) (eJ : (Z 0 0 0).toNatClampNeg = J) (hJ8 : J ≤ 8) {x : Int32} {ce0 : Nat → Nat → va_E} (kk : ∀ (lf : Nat → Int32) (ce : Nat → Nat → va_E) (S : STT) (H : Heap) (locs : List Loc) (ls : Array Slot), (∀ g b, g ≠ 93 → ce g b = ce0 g b) → ce 93 0 = .inl (cI, J, .inl lf) → (∀ b, b < J → lf b = LV Z b) → RLn r S M → wk D A L ad (cK cI cJ ad ce S) s.heap H locs → lv_has ls 17 [(15, .ref (ad 93 0)), (10, .int (nI J)), (9, .int (nI t)), (8, .int x), (7, .int (nI i)), (6, .ref (ad 92 0)), (5, .int (nI nr)), (4, .ref (ad 91 0)), (3, .ref (ad 90 0)), (2, .int (nI ns)), (1, .ref (ad 0 0)), (0, .ref (K0 0))] → W p l e R s m args below meth c H locs (201 + 6 * i) (2012 + 40 * i) Q (F0 m 772 ls [])) : ∀ (n a : Nat) (lf : Nat → Int32) (S : STT) (ce : Nat → Nat → va_E) (H : Heap) (locs : List Loc) (ls : Array Slot), a + n = J → (∀ g b, g ≠ 93 → ce g b = ce0 g b) → ce 93 0 = .inl (cI, J, .inl lf) → (∀ b, b < a → lf b = LV Z b) → RLn r S M → wk D A L ad (cK cI cJ ad ce S) s.heap H locs → lv_has ls 17 [(16, .int (nI a)), (15, .ref (ad 93 0)), (10, .int (nI J)), (9, .int (nI t)), (8, .int x), (7, .int (nI i)), (6, .ref (ad 92 0)), (5, .int (nI nr)), (4, .ref (ad 91 0)), (3, .ref (ad 90 0)), (2, .int (nI ns)), (1, .ref (ad 0 0)), (0, .ref (K0 0))] → W p l e R s m args below meth c H locs (201 + 6 * i) (2012 + 40 * i) Q (F0 m 724 ls []) := by
  obtain ⟨hx, hb, hml, hown, hts⟩ := F
  have hc : 201 + 6 * i ≤ R.cells ∧ 2012 + 40 * i ≤ R.slots := ⟨by omega, by omega⟩
  intro n
  induction n with
  | zero =>
    intro a lf S ce H locs ls ha hce h93 hlf hS hw hl
    refine lv_iload hx hb dL_law_724 (lv_at hl 0 rfl) ?_
    refine lv_iload hx hb dL_law_726 (lv_at hl 2 rfl) ?_
    refine lv_icmp_ge (tgt := 772) hx hb dL_law_728 (by decide) (fun _ => ?_) (fun h => absurd (nI_le (by omega) (by omega)) h)
    exact kk lf ce S H locs ls hce h93 (fun b hb1 => hlf b (by omega)) hS hw (lv_sub hl [1, 2, 3, 4, 5, 6, 7, 8, 9, 10, 11, 12] rfl)
  | succ n ih =>
    intro a lf S ce H locs ls ha hce h93 hlf hS hw hl
    have hlt : ¬ nI J ≤ nI a := nI_ge (by omega) (by omega)
    have hj : a < (Z 0 0 0).toNatClampNeg := by omega
    refine lv_iload hx hb dL_law_724 (lv_at hl 0 rfl) ?_
    refine lv_iload hx hb dL_law_726 (lv_at hl 2 rfl) ?_
    refine lv_icmp_ge (tgt := 772) hx hb dL_law_728 (by decide) (fun h => absurd h hlt) (fun _ => ?_)
    refine lv_aload hx hb dL_law_731 (lv_at hl 1 rfl) ?_
    refine lv_iload hx hb dL_law_733 (lv_at hl 0 rfl) ?_
    refine lv_aload_n hx hb dL_law_735 rfl (lv_at hl 11 rfl) ?_
    refine lv_iload hx hb dL_law_736 (lv_at hl 0 rfl) ?_
    refine lv_iconst (v := 5) hx hb dL_law_738 (by decide) ?_
    by_cases hl6 : Z 6 a 2 = 0
    · refine r_joiner ⟨hx, hb, hml, hown, hts⟩ hK hO hL hA hw hZ hS (j := a) (w := 5) hj (by decide) (v := 0) (w_j5.trans (if_pos hl6)) (cwV 2 hts (gB_V w_ml_L_52 w_im_X5_ofJoiner w_se_X5_ofJoiner w_in_X5 w_co_X5_ofJoiner) rfl rfl rfl (by decide +kernel) ⟨Nat.le_trans (Nat.le_of_ble_eq_true rfl) hfr, Nat.le_trans (Nat.le_of_ble_eq_true rfl) hlo⟩) hl.1 (Nat.le_of_ble_eq_true rfl) hc dL_law_739 (fun S H locs hS hw => ?_)
      refine lv_iconst (v := 1) hx hb dL_law_742 (by decide) ?_
      refine lv_icmp_ne (tgt := 764) hx hb dL_law_743 (by decide) (fun _ => ?_) (fun h => absurd h (by decide))
      refine lv_iconst (v := (-1)) hx hb dL_law_764 (by decide) ?_
      refine r_ast ⟨hx, hb, hml, hown, hts⟩ hK hw (i := a) m93 (by decide) h93 (by omega) (by omega) dL_law_765 (fun ce1 H locs h93 hce1 hw => ?_)
      have hlf1 : ∀ b, b < a + 1 → upd lf a (-1) b = LV Z b := fun b hb1 => by
        by_cases z : b = a
        · rw [z, upd_e]; exact (if_pos hl6).symm
        · rw [upd_n z]; exact hlf b (by omega)
      refine lv_iinc (v := (nI (a + 1))) (lv' := [(16, .int (nI (a + 1))), (15, .ref (ad 93 0)), (10, .int (nI J)), (9, .int (nI t)), (8, .int x), (7, .int (nI i)), (6, .ref (ad 92 0)), (5, .int (nI nr)), (4, .ref (ad 91 0)), (3, .ref (ad 90 0)), (2, .int (nI ns)), (1, .ref (ad 0 0)), (0, .ref (K0 0))]) hx hb dL_law_766 hl (k := 0) rfl (nI_1 _) (by decide) rfl (fun ls hl => ?_)
      refine lv_goto (tgt := 724) hx hb dL_law_769 (by decide) ?_
      exact ih (a + 1) _ S ce1 H locs ls (by omega) (fun g b hg => (hce1 g b hg).trans (hce g b hg)) h93 hlf1 hS hw (lv_sub hl [0, 1, 2, 3, 4, 5, 6, 7, 8, 9, 10, 11, 12] rfl)
    · refine r_joiner ⟨hx, hb, hml, hown, hts⟩ hK hO hL hA hw hZ hS (j := a) (w := 5) hj (by decide) (v := 1) (w_j5.trans (if_neg hl6)) (cwV 2 hts (gB_V w_ml_L_52 w_im_X5_ofJoiner w_se_X5_ofJoiner w_in_X5 w_co_X5_ofJoiner) rfl rfl rfl (by decide +kernel) ⟨Nat.le_trans (Nat.le_of_ble_eq_true rfl) hfr, Nat.le_trans (Nat.le_of_ble_eq_true rfl) hlo⟩) hl.1 (Nat.le_of_ble_eq_true rfl) hc dL_law_739 (fun S H locs hS hw => ?_)
      refine lv_iconst (v := 1) hx hb dL_law_742 (by decide) ?_
      refine lv_icmp_ne (tgt := 764) hx hb dL_law_743 (by decide) (fun h => absurd (by decide) h) (fun _ => ?_)
      refine lv_aload_n hx hb dL_law_746 rfl (lv_at hl 11 rfl) ?_
      refine lv_iload hx hb dL_law_747 (lv_at hl 0 rfl) ?_
      refine lv_iconst (v := 2) hx hb dL_law_749 (by decide) ?_
      refine r_joiner ⟨hx, hb, hml, hown, hts⟩ hK hO hL hA hw hZ hS (j := a) (w := 2) hj (by decide) (v := nI (qn (sp_X1_stepsIn Z a 2) 12)) (w_j2.trans (cnt_q Z a 2)) (cwV 2 hts (gB_V w_ml_L_52 w_im_X5_ofJoiner w_se_X5_ofJoiner w_in_X5 w_co_X5_ofJoiner) rfl rfl rfl (by decide +kernel) ⟨Nat.le_trans (Nat.le_of_ble_eq_true rfl) hfr, Nat.le_trans (Nat.le_of_ble_eq_true rfl) hlo⟩) hl.1 (Nat.le_of_ble_eq_true rfl) hc dL_law_750 (fun S H locs hS hw => ?_)
      refine lv_aload_n hx hb dL_law_753 rfl (lv_at hl 11 rfl) ?_
      refine lv_iload hx hb dL_law_754 (lv_at hl 0 rfl) ?_
      refine lv_iconst (v := 3) hx hb dL_law_756 (by decide) ?_
      refine r_joiner ⟨hx, hb, hml, hown, hts⟩ hK hO hL hA hw hZ hS (j := a) (w := 3) hj (by decide) (v := nI (qn (sp_X1_stepsIn Z a 1) 12)) (w_j3.trans (cnt_q Z a 1)) (cwV 2 hts (gB_V w_ml_L_52 w_im_X5_ofJoiner w_se_X5_ofJoiner w_in_X5 w_co_X5_ofJoiner) rfl rfl rfl (by decide +kernel) ⟨Nat.le_trans (Nat.le_of_ble_eq_true rfl) hfr, Nat.le_trans (Nat.le_of_ble_eq_true rfl) hlo⟩) hl.1 (Nat.le_of_ble_eq_true rfl) hc dL_law_757 (fun S H locs hS hw => ?_)
      refine lv_iadd hx hb dL_law_760 ?_
      rw [show ((nI (qn (sp_X1_stepsIn Z a 2) 12)) + (nI (qn (sp_X1_stepsIn Z a 1) 12)) : Int32) = nI ((qn (sp_X1_stepsIn Z a 2) 12) + (qn (sp_X1_stepsIn Z a 1) 12)) from nI_add (qn (sp_X1_stepsIn Z a 2) 12) (qn (sp_X1_stepsIn Z a 1) 12)]
      refine lv_goto (tgt := 765) hx hb dL_law_761 (by decide) ?_
      refine r_ast ⟨hx, hb, hml, hown, hts⟩ hK hw (i := a) m93 (by decide) h93 (by omega) (by omega) dL_law_765 (fun ce1 H locs h93 hce1 hw => ?_)
      have hlf1 : ∀ b, b < a + 1 → upd lf a (nI ((qn (sp_X1_stepsIn Z a 2) 12) + (qn (sp_X1_stepsIn Z a 1) 12))) b = LV Z b := fun b hb1 => by
        by_cases z : b = a
        · rw [z, upd_e]; exact (if_neg hl6).symm
        · rw [upd_n z]; exact hlf b (by omega)
      refine lv_iinc (v := (nI (a + 1))) (lv' := [(16, .int (nI (a + 1))), (15, .ref (ad 93 0)), (10, .int (nI J)), (9, .int (nI t)), (8, .int x), (7, .int (nI i)), (6, .ref (ad 92 0)), (5, .int (nI nr)), (4, .ref (ad 91 0)), (3, .ref (ad 90 0)), (2, .int (nI ns)), (1, .ref (ad 0 0)), (0, .ref (K0 0))]) hx hb dL_law_766 hl (k := 0) rfl (nI_1 _) (by decide) rfl (fun ls hl => ?_)
      refine lv_goto (tgt := 724) hx hb dL_law_769 (by decide) ?_
      exact ih (a + 1) _ S ce1 H locs ls (by omega) (fun g b hg => (hce1 g b hg).trans (hce g b hg)) h93 hlf1 hS hw (lv_sub hl [0, 1, 2, 3, 4, 5, 6, 7, 8, 9, 10, 11, 12] rfl)

set_option maxHeartbeats 4000000 in
set_option maxRecDepth 100000 in
theorem law_d2 {p : Program} {l : Launch} {e : Env} {R : Room} {s : State} {m : MethodId} {args : Array Value} {below : List Frame} {meth : Method} {c : Code} {Q : State → Prop} {D : va_G} {cI cG cJ cO : ClassId} {K0 : Nat → Nat} {A : Nat → Prop} {L : List (Nat × Nat)} {ad : Nat → Nat → Nat} (F : CallFix p m c cL_law 17 s args BIG RL) (hK : va_K D vwCl (ktys cI cG cJ cO) s) (hO : OW A K0 s) (hL : ∀ f o, cid f o = true → (f, o) ∈ L) (hA : ∀ q, s.heap.size ≤ q → A q) (hst : l.stackTraces = false) (hfr : 8 ≤ R.frames) (hlo : 180 ≤ R.locals) (hRc : 2000 ≤ R.cells) (hRs : 20000 ≤ R.slots) (h1 : K0 1 < 2 ^ 31) (m93 : (93, 0) ∈ L) {ns nr i t J r : Nat} (hi : i < 50) {Z0 Z M : STT} (hZ : RLn r Z M) (eJ : (Z 0 0 0).toNatClampNeg = J) (hJ8 : J ≤ 8) {x : Int32} {ce : Nat → Nat → va_E} {lf : Nat → Int32} (h93 : ce 93 0 = .inl (cI, J, .inl lf)) (hlf : ∀ b, b < J → lf b = LV Z0 b) (hct : ∀ b, b < J → ¬ Z0 6 b 2 = 0 → CT Z b = CT Z0 b - 1) (kk : ∀ (S : STT) (H : Heap) (locs : List Loc) (ls : Array Slot), RLn r S M → wk D A L ad (cK cI cJ ad ce S) s.heap H locs → lv_has ls 17 [(10, .int (nI J)), (9, .int (nI t)), (8, .int x), (7, .int (nI i)), (6, .ref (ad 92 0)), (5, .int (nI nr)), (4, .ref (ad 91 0)), (3, .ref (ad 90 0)), (2, .int (nI ns)), (1, .ref (ad 0 0)), (0, .ref (K0 0))] → W p l e R s m args below meth c H locs (203 + 6 * i) (2024 + 40 * i) Q (F0 m 849 ls [])) : ∀ (n a : Nat) (S : STT) (H : Heap) (locs : List Loc) (ls : Array Slot), a + n = J → RLn r S M → wk D A L ad (cK cI cJ ad ce S) s.heap H locs → lv_has ls 17 [(16, .int (nI a)), (15, .ref (ad 93 0)), (10, .int (nI J)), (9, .int (nI t)), (8, .int x), (7, .int (nI i)), (6, .ref (ad 92 0)), (5, .int (nI nr)), (4, .ref (ad 91 0)), (3, .ref (ad 90 0)), (2, .int (nI ns)), (1, .ref (ad 0 0)), (0, .ref (K0 0))] → W p l e R s m args below meth c H locs (203 + 6 * i) (2024 + 40 * i) Q (F0 m 797 ls []) := by
  obtain ⟨hx, hb, hml, hown, hts⟩ := F
  have hc : 203 + 6 * i ≤ R.cells ∧ 2024 + 40 * i ≤ R.slots := ⟨by omega, by omega⟩
  intro n
  induction n with
  | zero =>
    intro a S H locs ls ha hS hw hl
    refine lv_iload hx hb dL_law_797 (lv_at hl 0 rfl) ?_
    refine lv_iload hx hb dL_law_799 (lv_at hl 2 rfl) ?_
    refine lv_icmp_ge (tgt := 849) hx hb dL_law_801 (by decide) (fun _ => ?_) (fun h => absurd (nI_le (by omega) (by omega)) h)
    exact kk S H locs ls hS hw (lv_sub hl [2, 3, 4, 5, 6, 7, 8, 9, 10, 11, 12] rfl)
  | succ n ih =>
    intro a S H locs ls ha hS hw hl
    have hlt : ¬ nI J ≤ nI a := nI_ge (by omega) (by omega)
    have hj : a < (Z 0 0 0).toNatClampNeg := by omega
    have hle := CT_le Z0 a
    by_cases hl6 : Z0 6 a 2 = 0
    · refine lv_iload hx hb dL_law_797 (lv_at hl 0 rfl) ?_
      refine lv_iload hx hb dL_law_799 (lv_at hl 2 rfl) ?_
      refine lv_icmp_ge (tgt := 849) hx hb dL_law_801 (by decide) (fun h => absurd h hlt) (fun _ => ?_)
      refine lv_aload hx hb dL_law_804 (lv_at hl 1 rfl) ?_
      refine lv_iload hx hb dL_law_806 (lv_at hl 0 rfl) ?_
      refine r_ald ⟨hx, hb, hml, hown, hts⟩ hK hw (i := a) (v := (-1)) m93 (by decide) h93 (by omega) (by omega) ((hlf a (by omega)).trans (if_pos hl6)) dL_law_808 ?_
      refine lv_if_lt (tgt := 843) hx hb dL_law_809 (by decide) (fun _ => ?_) (fun h => absurd (by decide) h)
      refine lv_iinc (v := (nI (a + 1))) (lv' := [(16, .int (nI (a + 1))), (15, .ref (ad 93 0)), (10, .int (nI J)), (9, .int (nI t)), (8, .int x), (7, .int (nI i)), (6, .ref (ad 92 0)), (5, .int (nI nr)), (4, .ref (ad 91 0)), (3, .ref (ad 90 0)), (2, .int (nI ns)), (1, .ref (ad 0 0)), (0, .ref (K0 0))]) hx hb dL_law_843 hl (k := 0) rfl (nI_1 _) (by decide) rfl (fun ls hl => ?_)
      refine lv_goto (tgt := 797) hx hb dL_law_846 (by decide) ?_
      exact ih (a + 1) S H locs ls (by omega) hS hw (lv_sub hl [0, 1, 2, 3, 4, 5, 6, 7, 8, 9, 10, 11, 12] rfl)
    · refine lv_iload hx hb dL_law_797 (lv_at hl 0 rfl) ?_
      refine lv_iload hx hb dL_law_799 (lv_at hl 2 rfl) ?_
      refine lv_icmp_ge (tgt := 849) hx hb dL_law_801 (by decide) (fun h => absurd h hlt) (fun _ => ?_)
      refine lv_aload hx hb dL_law_804 (lv_at hl 1 rfl) ?_
      refine lv_iload hx hb dL_law_806 (lv_at hl 0 rfl) ?_
      refine r_ald ⟨hx, hb, hml, hown, hts⟩ hK hw (i := a) (v := nI (CT Z0 a)) m93 (by decide) h93 (by omega) (by omega) ((hlf a (by omega)).trans (if_neg hl6)) dL_law_808 ?_
      refine lv_if_lt (tgt := 843) hx hb dL_law_809 (by decide) (fun h => absurd h (q_ge (by omega))) (fun _ => ?_)
      refine lv_aload_n hx hb dL_law_812 rfl (lv_at hl 11 rfl) ?_
      refine lv_iload hx hb dL_law_813 (lv_at hl 0 rfl) ?_
      refine lv_iconst (v := 2) hx hb dL_law_815 (by decide) ?_
      refine r_joiner ⟨hx, hb, hml, hown, hts⟩ hK hO hL hA hw hZ hS (j := a) (w := 2) hj (by decide) (v := nI (qn (sp_X1_stepsIn Z a 2) 12)) (w_j2.trans (cnt_q Z a 2)) (cwV 2 hts (gB_V w_ml_L_52 w_im_X5_ofJoiner w_se_X5_ofJoiner w_in_X5 w_co_X5_ofJoiner) rfl rfl rfl (by decide +kernel) ⟨Nat.le_trans (Nat.le_of_ble_eq_true rfl) hfr, Nat.le_trans (Nat.le_of_ble_eq_true rfl) hlo⟩) hl.1 (Nat.le_of_ble_eq_true rfl) hc dL_law_816 (fun S H locs hS hw => ?_)
      refine lv_aload_n hx hb dL_law_819 rfl (lv_at hl 11 rfl) ?_
      refine lv_iload hx hb dL_law_820 (lv_at hl 0 rfl) ?_
      refine lv_iconst (v := 3) hx hb dL_law_822 (by decide) ?_
      refine r_joiner ⟨hx, hb, hml, hown, hts⟩ hK hO hL hA hw hZ hS (j := a) (w := 3) hj (by decide) (v := nI (qn (sp_X1_stepsIn Z a 1) 12)) (w_j3.trans (cnt_q Z a 1)) (cwV 2 hts (gB_V w_ml_L_52 w_im_X5_ofJoiner w_se_X5_ofJoiner w_in_X5 w_co_X5_ofJoiner) rfl rfl rfl (by decide +kernel) ⟨Nat.le_trans (Nat.le_of_ble_eq_true rfl) hfr, Nat.le_trans (Nat.le_of_ble_eq_true rfl) hlo⟩) hl.1 (Nat.le_of_ble_eq_true rfl) hc dL_law_823 (fun S H locs hS hw => ?_)
      refine lv_iadd hx hb dL_law_826 ?_
      rw [show ((nI (qn (sp_X1_stepsIn Z a 2) 12)) + (nI (qn (sp_X1_stepsIn Z a 1) 12)) : Int32) = nI ((qn (sp_X1_stepsIn Z a 2) 12) + (qn (sp_X1_stepsIn Z a 1) 12)) from nI_add (qn (sp_X1_stepsIn Z a 2) 12) (qn (sp_X1_stepsIn Z a 1) 12)]
      refine lv_iconst (v := 0) hx hb dL_law_827 (by decide) ?_
      refine lv_aload hx hb dL_law_828 (lv_at hl 1 rfl) ?_
      refine lv_iload hx hb dL_law_830 (lv_at hl 0 rfl) ?_
      refine r_ald ⟨hx, hb, hml, hown, hts⟩ hK hw (i := a) (v := nI (CT Z0 a)) m93 (by decide) h93 (by omega) (by omega) ((hlf a (by omega)).trans (if_neg hl6)) dL_law_832 ?_
      refine lv_iconst (v := 1) hx hb dL_law_833 (by decide) ?_
      refine lv_isub hx hb dL_law_834 ?_
      refine va_mmax hx hb (hml.trans hl.1.symm) hown (hts _ w_ml_L_65) (hts _ w_st_max) (hts _ w_in_J9) (hts _ w_co_max) (Nat.le_trans (Nat.le_of_ble_eq_true rfl) hfr) (Nat.le_trans (Nat.le_of_ble_eq_true rfl) hlo) hc.1 hc.2 dL_law_835 ?_
      rw [max_dec (x := CT Z0 a) (by omega)]
      refine lv_icmp_eq (tgt := 843) hx hb dL_law_838 (by decide) (fun _ => ?_) (fun h => absurd (congrArg nI (hct a (by omega) hl6)) h)
      refine lv_iinc (v := (nI (a + 1))) (lv' := [(16, .int (nI (a + 1))), (15, .ref (ad 93 0)), (10, .int (nI J)), (9, .int (nI t)), (8, .int x), (7, .int (nI i)), (6, .ref (ad 92 0)), (5, .int (nI nr)), (4, .ref (ad 91 0)), (3, .ref (ad 90 0)), (2, .int (nI ns)), (1, .ref (ad 0 0)), (0, .ref (K0 0))]) hx hb dL_law_843 hl (k := 0) rfl (nI_1 _) (by decide) rfl (fun ls hl => ?_)
      refine lv_goto (tgt := 797) hx hb dL_law_846 (by decide) ?_
      exact ih (a + 1) S H locs ls (by omega) hS hw (lv_sub hl [0, 1, 2, 3, 4, 5, 6, 7, 8, 9, 10, 11, 12] rfl)

set_option maxHeartbeats 4000000 in
set_option maxRecDepth 100000 in
theorem law_d0 {p : Program} {l : Launch} {e : Env} {R : Room} {s : State} {m : MethodId} {args : Array Value} {below : List Frame} {meth : Method} {c : Code} {Q : State → Prop} {D : va_G} {cI cG cJ cO : ClassId} {K0 : Nat → Nat} {A : Nat → Prop} {L : List (Nat × Nat)} {ad : Nat → Nat → Nat} (F : CallFix p m c cL_law 17 s args BIG RL) (hK : va_K D vwCl (ktys cI cG cJ cO) s) (hO : OW A K0 s) (hL : ∀ f o, cid f o = true → (f, o) ∈ L) (hA : ∀ q, s.heap.size ≤ q → A q) (hst : l.stackTraces = false) (hfr : 8 ≤ R.frames) (hlo : 180 ≤ R.locals) (hRc : 2000 ≤ R.cells) (hRs : 20000 ≤ R.slots) (h1 : K0 1 < 2 ^ 31) (m93 : (93, 0) ∈ L) {ns nr : Nat} {kd nd st : Nat → Int32} {i t J : Nat} (hi : i < 50) {Z : STT} (hLS : LSt kd nd st ns nr i Z) (hJ : Z 0 0 0 = nI J) (ht : Z 0 0 1 = nI t) (hJ8 : J ≤ 8) (htI : t ≤ i) {x : Int32} {ce0 : Nat → Nat → va_E} (h93 : ce0 93 0 = .inl (cI, J, .inl (fun _ => 0))) (kk : ∀ (S : STT) (ce : Nat → Nat → va_E) (H : Heap) (locs : List Loc) (ls : Array Slot), (∀ g b, g ≠ 93 → ce g b = ce0 g b) → LSt kd nd st ns nr (i + 1) S → wk D A L ad (cK cI cJ ad ce S) s.heap H locs → lv_has ls 17 [(10, .int (nI J)), (9, .int (nI t)), (8, .int x), (7, .int (nI i)), (6, .ref (ad 92 0)), (5, .int (nI nr)), (4, .ref (ad 91 0)), (3, .ref (ad 90 0)), (2, .int (nI ns)), (1, .ref (ad 0 0)), (0, .ref (K0 0))] → W p l e R s m args below meth c H locs (203 + 6 * i) (2024 + 40 * i) Q (F0 m 849 ls [])) {H : Heap} {locs : List Loc} {ls : Array Slot} (hw : wk D A L ad (cK cI cJ ad ce0 Z) s.heap H locs) (hl : lv_has ls 17 [(10, .int (nI J)), (9, .int (nI t)), (8, .int x), (7, .int (nI i)), (6, .ref (ad 92 0)), (5, .int (nI nr)), (4, .ref (ad 91 0)), (3, .ref (ad 90 0)), (2, .int (nI ns)), (1, .ref (ad 0 0)), (0, .ref (K0 0))]) : W p l e R s m args below meth c H locs (201 + 6 * i) (2012 + 40 * i) Q (F0 m 719 ls [.ref (ad 93 0)]) := by
  obtain ⟨hx, hb, hml, hown, hts⟩ := F
  obtain ⟨r, M, g1, hZ, hN, g4, g5, g6, g7, g8, g9⟩ := id hLS
  have v := hZ.c.self.iv
  have eJ : (Z 0 0 0).toNatClampNeg = J := by rw [hJ, q_cl (by omega)]
  refine lv_astore (lv' := [(15, .ref (ad 93 0)), (10, .int (nI J)), (9, .int (nI t)), (8, .int x), (7, .int (nI i)), (6, .ref (ad 92 0)), (5, .int (nI nr)), (4, .ref (ad 91 0)), (3, .ref (ad 90 0)), (2, .int (nI ns)), (1, .ref (ad 0 0)), (0, .ref (K0 0))]) hx hb dL_law_719 hl (by decide) rfl (fun ls hl => ?_)
  refine lv_iconst (v := 0) hx hb dL_law_721 (by decide) ?_
  refine lv_istore (lv' := [(16, .int 0), (15, .ref (ad 93 0)), (10, .int (nI J)), (9, .int (nI t)), (8, .int x), (7, .int (nI i)), (6, .ref (ad 92 0)), (5, .int (nI nr)), (4, .ref (ad 91 0)), (3, .ref (ad 90 0)), (2, .int (nI ns)), (1, .ref (ad 0 0)), (0, .ref (K0 0))]) hx hb dL_law_722 hl (by decide) rfl (fun ls hl => ?_)
  refine law_d1 ⟨hx, hb, hml, hown, hts⟩ hK hO hL hA hst hfr hlo hRc hRs h1 m93 hi hZ eJ hJ8 (fun lf ce S H locs ls hce h93 hlf hS hw hl => ?_) J 0 (fun _ => 0) Z ce0 H locs ls (Nat.zero_add J) (fun g b _ => rfl) h93 (fun b hb1 => absurd hb1 (Nat.not_lt_zero b)) hZ hw (lv_sub hl [0, 1, 2, 3, 4, 5, 6, 7, 8, 9, 10, 11, 12] rfl)
  refine lv_aload_n hx hb dL_law_772 rfl (lv_at hl 10 rfl) ?_
  have es0 : S 0 = Z 0 := by rw [hS.c.rw.r0, hZ.c.rw.r0]
  have es6 : S 6 = Z 6 := by rw [hS.c.rw.r6, hZ.c.rw.r6]
  have es24 : S 24 = Z 24 := by rw [hS.c.rw.r24, hZ.c.rw.r24]
  have es27 : (S 0 0 1).toInt = t := by rw [es0, ht, nI_toInt (by omega)]
  have hc : 201 + 6 * i ≤ R.cells ∧ 2012 + 40 * i ≤ R.slots := ⟨by omega, by omega⟩
  have hLSs := hLS.stay (Nat.le_refl i) hZ g1 hS hN
  obtain ⟨e0, e9, ⟨M1, e2⟩, e3, e4, e5, e6, e7, e8⟩ := n_day (r := r) (by omega) hS (NI.ask hZ hS hN) (by omega)
  obtain ⟨dn, e1⟩ : ∃ dn : Int32, (sp_X5_day S).2.1 = dn := ⟨_, rfl⟩
  rw [e1] at e9
  refine x_ci hw (x_rV (As := []) (rest := []) ⟨hx, hb, hml, hown, hts⟩ hK hO hw (ct_X5_day hL S (RLn.ci hS).1 hst _ (wk.hA hw hA)) (cwV 0 hts (gB_V w_ml_L_61 w_im_X5_day w_se_X5_day w_in_X5 w_co_X5_day) rfl rfl rfl (by decide +kernel) ⟨Nat.le_trans (Nat.le_of_ble_eq_true rfl) hfr, Nat.le_trans (Nat.le_of_ble_eq_true rfl) hlo⟩) (hL 0 0 rfl) cke_0 rfl rfl hl.1 rfl (Nat.le_of_ble_eq_true rfl) dL_law_773 ⟨by omega, by omega⟩) (fun E cx q9 H locs hx9 hw hcx hvx hclx => absurd e0 hx9.ne) (fun H locs hc0 hw => ?_)
  rw [e1]
  generalize (sp_X5_day S).2.2 = S1 at e2 e3 e4 e5 e6 e7 e8 hw
  have et1 : S1 0 0 1 = nI (t + 1) := by rw [e5, es0, ht]; exact nI_add t 1
  have hLS1 := hLSs.next g1 e2 e3 e4 (by rw [et1, es27, nI_toInt (by omega)]; omega)
  have hZ0 := hZ
  have hZ := e2
  have hS := e2
  have hc : 203 + 6 * i ≤ R.cells ∧ 2024 + 40 * i ≤ R.slots := ⟨by omega, by omega⟩
  refine W.widen (k := 203 + 6 * i) (n := 2024 + 40 * i) (by omega) (by omega) ?_
  refine lv_if_lt (tgt := 792) hx hb dL_law_776 (by decide) (fun h => absurd h (fun z => by rw [Int32.lt_iff_toInt_lt, z_i] at z; omega)) (fun _ => ?_)
  refine lv_aload_n hx hb dL_law_779 rfl (lv_at hl 10 rfl) ?_
  refine lv_bipush (v := 10) hx hb dL_law_780 (by decide) ?_
  refine r_many ⟨hx, hb, hml, hown, hts⟩ hK hO hL hA hw hZ hS (w := 10) (by decide) (v := nI (t + 1)) (w_m10.trans et1) (cwV 1 hts (gB_V w_ml_L_33 w_im_X5_many w_se_X5_many w_in_X5 w_co_X5_many) rfl rfl rfl (by decide +kernel) ⟨Nat.le_trans (Nat.le_of_ble_eq_true rfl) hfr, Nat.le_trans (Nat.le_of_ble_eq_true rfl) hlo⟩) hl.1 (Nat.le_of_ble_eq_true rfl) hc dL_law_782 (fun H locs hw => ?_)
  refine lv_iload hx hb dL_law_785 (lv_at hl 2 rfl) ?_
  refine lv_iconst (v := 1) hx hb dL_law_787 (by decide) ?_
  refine lv_iadd hx hb dL_law_788 ?_
  rw [show ((nI t) + 1 : Int32) = nI (t + 1) from nI_add t 1]
  refine lv_icmp_eq (tgt := 794) hx hb dL_law_789 (by decide) (fun _ => ?_) (fun h => absurd rfl h)
  refine lv_iconst (v := 0) hx hb dL_law_794 (by decide) ?_
  refine lv_istore (lv' := [(16, .int 0), (15, .ref (ad 93 0)), (10, .int (nI J)), (9, .int (nI t)), (8, .int x), (7, .int (nI i)), (6, .ref (ad 92 0)), (5, .int (nI nr)), (4, .ref (ad 91 0)), (3, .ref (ad 90 0)), (2, .int (nI ns)), (1, .ref (ad 0 0)), (0, .ref (K0 0))]) hx hb dL_law_795 hl (by decide) rfl (fun ls hl => ?_)
  exact law_d2 ⟨hx, hb, hml, hown, hts⟩ hK hO hL hA hst hfr hlo hRc hRs h1 m93 hi (Z0 := Z) hZ (by rw [e6, es0, eJ]) hJ8 h93 hlf (fun b hb1 hl6 => ct_dec (fun k hk hs => v.ss b (by omega) k hk hs) (e7.trans es6) (by rw [← es24]; exact e8 b (by rw [es0]; omega) (by rw [es6]; exact hl6))) (fun S H locs ls hS hw hl => kk S ce H locs ls hce (hLS1.stay (Nat.le_refl _) e2 (by omega) hS e3) hw hl) J 0 S1 H locs ls (Nat.zero_add J) hS hw (lv_sub hl [0, 1, 2, 3, 4, 5, 6, 7, 8, 9, 10, 11, 12] rfl)

set_option maxHeartbeats 4000000 in
set_option maxRecDepth 100000 in
theorem law_c5 {p : Program} {l : Launch} {e : Env} {R : Room} {s : State} {m : MethodId} {args : Array Value} {below : List Frame} {meth : Method} {c : Code} {Q : State → Prop} {D : va_G} {cI cG cJ cO : ClassId} {K0 : Nat → Nat} {A : Nat → Prop} {L : List (Nat × Nat)} {ad : Nat → Nat → Nat} (F : CallFix p m c cL_law 17 s args BIG RL) (hK : va_K D vwCl (ktys cI cG cJ cO) s) (hO : OW A K0 s) (hL : ∀ f o, cid f o = true → (f, o) ∈ L) (hA : ∀ q, s.heap.size ≤ q → A q) (hst : l.stackTraces = false) (hfr : 8 ≤ R.frames) (hlo : 180 ≤ R.locals) (hRc : 2000 ≤ R.cells) (hRs : 20000 ≤ R.slots) (h1 : K0 1 < 2 ^ 31) (m90 : (90, 0) ∈ L) (m91 : (91, 0) ∈ L) (m92 : (92, 0) ∈ L) {ns nr : Nat} (hns4 : 4 ≤ ns) (hns : ns ≤ 10) (hnr : nr ≤ 6) {kd nd : Nat → Int32} (n93 : ∀ a, (93, a) ∉ L)  {st : Nat → Int32} {ce : Nat → Nat → va_E} {i t J : Nat} (hi : i < 50) {Z : STT} (hLS : LSt kd nd st ns nr i Z) (hJ : Z 0 0 0 = nI J) (ht : Z 0 0 1 = nI t) (hJ8 : J ≤ 8) (htI : t ≤ i) {x : Int32} (k849 : ∀ (S : STT) (H : Heap) (locs : List Loc) (ls : Array Slot), LSt kd nd st ns nr (i + 1) S → wk D A L ad (cK cI cJ ad ce S) s.heap H locs → lv_has ls 17 [(7, .int (nI i)), (6, .ref (ad 92 0)), (5, .int (nI nr)), (4, .ref (ad 91 0)), (3, .ref (ad 90 0)), (2, .int (nI ns)), (1, .ref (ad 0 0)), (0, .ref (K0 0))] → W p l e R s m args below meth c H locs (206 + 6 * i) (2040 + 40 * i) Q (F0 m 849 ls [])) {H : Heap} {locs : List Loc} {ls : Array Slot} (hw : wk D A L ad (cK cI cJ ad ce Z) s.heap H locs) (hl : lv_has ls 17 [(10, .int (nI J)), (9, .int (nI t)), (8, .int x), (7, .int (nI i)), (6, .ref (ad 92 0)), (5, .int (nI nr)), (4, .ref (ad 91 0)), (3, .ref (ad 90 0)), (2, .int (nI ns)), (1, .ref (ad 0 0)), (0, .ref (K0 0))]) : W p l e R s m args below meth c H locs (200 + 6 * i) (2000 + 40 * i) Q (F0 m 715 ls []) := by
  obtain ⟨hx, hb, hml, hown, hts⟩ := F
  have hc : 200 + 6 * i + 1 ≤ R.cells ∧ 2000 + 40 * i + 12 ≤ R.slots := ⟨by omega, by omega⟩
  refine lv_iload hx hb dL_law_715 (lv_at hl 0 rfl) ?_
  refine r_new ⟨hx, hb, hml, hown, hts⟩ hK hA hw (f := 93) (n := J) (by decide) (n93 0) (by omega) hc dL_law_717 (fun u ce1 H hu h93 hce hw => ?_)
  rw [← hu 92 0 (by decide), ← hu 91 0 (by decide), ← hu 90 0 (by decide), ← hu 0 0 (by decide)] at hl
  refine W.widen (k := 201 + 6 * i) (n := 2012 + 40 * i) (by omega) (by omega) ?_
  refine law_d0 (L := L ++ [(93, 0)]) (ad := u) ⟨hx, hb, hml, hown, hts⟩ hK hO (fun f o h => List.mem_append_left _ (hL f o h)) hA hst hfr hlo hRc hRs h1 (List.mem_append_right _ (List.mem_singleton.mpr rfl)) hi hLS hJ ht hJ8 htI h93 (fun S ce2 H locs ls hce2 hLS1 hw hl => ?_) hw hl
  rw [hu 92 0 (by decide), hu 91 0 (by decide), hu 90 0 (by decide), hu 0 0 (by decide)] at hl
  have hw := wk.back hw (by decide) n93 hu (fun g a hg => (hce2 g a hg).trans (hce g a hg))
  refine W.widen (k := 206 + 6 * i) (n := 2040 + 40 * i) (by omega) (by omega) ?_
  exact k849 S H locs ls hLS1 hw (lv_sub hl [3, 4, 5, 6, 7, 8, 9, 10] rfl)

set_option maxHeartbeats 4000000 in
set_option maxRecDepth 100000 in
theorem law_main {p : Program} {l : Launch} {e : Env} {R : Room} {s : State} {m : MethodId} {args : Array Value} {below : List Frame} {meth : Method} {c : Code} {Q : State → Prop} {D : va_G} {cI cG cJ cO : ClassId} {K0 : Nat → Nat} {A : Nat → Prop} {L : List (Nat × Nat)} {ad : Nat → Nat → Nat} (F : CallFix p m c cL_law 17 s args BIG RL) (hK : va_K D vwCl (ktys cI cG cJ cO) s) (hO : OW A K0 s) (hL : ∀ f o, cid f o = true → (f, o) ∈ L) (hA : ∀ q, s.heap.size ≤ q → A q) (hst : l.stackTraces = false) (hfr : 8 ≤ R.frames) (hlo : 180 ≤ R.locals) (hRc : 2000 ≤ R.cells) (hRs : 20000 ≤ R.slots) (h1 : K0 1 < 2 ^ 31) (m90 : (90, 0) ∈ L) (m91 : (91, 0) ∈ L) (m92 : (92, 0) ∈ L) {ns nr : Nat} (hns4 : 4 ≤ ns) (hns : ns ≤ 10) (hnr : nr ≤ 6) {kd nd : Nat → Int32} (n93 : ∀ a, (93, a) ∉ L) {st : Nat → Int32} {ce : Nat → Nat → va_E} (h90 : ce 90 0 = .inl (cI, ns, .inl kd)) (h91 : ce 91 0 = .inl (cI, ns, .inl nd)) (h92 : ce 92 0 = .inl (cI, nr, .inl st)) (kk : ∀ (S : STT) (H : Heap) (locs : List Loc) (ls : Array Slot), LSt kd nd st ns nr 50 S → wk D A L ad (cK cI cJ ad ce S) s.heap H locs → lv_has ls 17 [(6, .ref (ad 92 0)), (5, .int (nI nr)), (4, .ref (ad 91 0)), (3, .ref (ad 90 0)), (2, .int (nI ns)), (1, .ref (ad 0 0)), (0, .ref (K0 0))] → W p l e R s m args below meth c H locs 500 4000 Q (F0 m 869 ls [])) : ∀ (n i : Nat) (S : STT) (H : Heap) (locs : List Loc) (ls : Array Slot), i + n = 50 → LSt kd nd st ns nr i S → wk D A L ad (cK cI cJ ad ce S) s.heap H locs → lv_has ls 17 [(7, .int (nI i)), (6, .ref (ad 92 0)), (5, .int (nI nr)), (4, .ref (ad 91 0)), (3, .ref (ad 90 0)), (2, .int (nI ns)), (1, .ref (ad 0 0)), (0, .ref (K0 0))] → W p l e R s m args below meth c H locs (200 + 6 * i) (2000 + 40 * i) Q (F0 m 318 ls []) := by
  obtain ⟨hx, hb, hml, hown, hts⟩ := F
  intro n
  induction n with
  | zero =>
    intro i S H locs ls hi hLS hw hl
    obtain rfl : i = 50 := hi
    refine lv_iload hx hb dL_law_318 (lv_at hl 0 rfl) ?_
    refine lv_bipush (v := 50) hx hb dL_law_320 (by decide) ?_
    refine lv_icmp_ge (tgt := 869) hx hb dL_law_322 (by decide) (fun _ => ?_) (fun h => absurd (by decide) h)
    exact kk S H locs ls hLS hw (lv_sub hl [1, 2, 3, 4, 5, 6, 7] rfl)
  | succ n ih =>
    intro i Z H locs ls hi hLS hw hl
    have hlt : ¬ 50 ≤ nI i := nI_ge (b := 50) (by omega) (by omega)
    have hc : 200 + 6 * i ≤ R.cells ∧ 2000 + 40 * i ≤ R.slots := ⟨by omega, by omega⟩
    obtain ⟨r, M, g1, hZ, hN, g4, g5, g6, g7, g8, g9⟩ := id hLS
    have hS := hZ
    have v := hZ.c.self.iv
    obtain ⟨J, hJ, hJ8⟩ : ∃ J : Nat, Z 0 0 0 = nI J ∧ J ≤ 8 := ⟨_, cn_eq v.ci.2.2.2.2.1, v.j8⟩
    obtain ⟨t, ht, htI⟩ : ∃ t : Nat, Z 0 0 1 = nI t ∧ t ≤ i := by
      have a := cn_eq v.t0
      have b := v.t0
      have c : ((Z 0 0 1).toNatClampNeg : Int) = (Z 0 0 1).toInt := Int.toNat_of_nonneg b
      exact ⟨_, a, by omega⟩
    have k849 : ∀ (S : STT) (H : Heap) (locs : List Loc) (ls : Array Slot), LSt kd nd st ns nr (i + 1) S → wk D A L ad (cK cI cJ ad ce S) s.heap H locs → lv_has ls 17 [(7, .int (nI i)), (6, .ref (ad 92 0)), (5, .int (nI nr)), (4, .ref (ad 91 0)), (3, .ref (ad 90 0)), (2, .int (nI ns)), (1, .ref (ad 0 0)), (0, .ref (K0 0))] → W p l e R s m args below meth c H locs (206 + 6 * i) (2040 + 40 * i) Q (F0 m 849 ls []) := by
      clear hw hl hS g1 hN g4 g5 g6 g7 g8 g9 v hJ ht hZ hLS
      intro S H locs ls hLS hw hl
      have hc : 206 + 6 * i ≤ R.cells ∧ 2040 + 40 * i ≤ R.slots := ⟨by omega, by omega⟩
      obtain ⟨r, M, g1, hS, hN, g4, g5, g6, g7, g8, g9⟩ := id hLS
      refine lv_aload_n hx hb dL_law_849 rfl (lv_at hl 6 rfl) ?_
      refine lv_aload_n hx hb dL_law_850 rfl (lv_at hl 4 rfl) ?_
      refine lv_aload hx hb dL_law_851 (lv_at hl 3 rfl) ?_
      refine lv_aload hx hb dL_law_853 (lv_at hl 1 rfl) ?_
      refine r_fair ⟨hx, hb, hml, hown, hts⟩ hK hO hL hA (by omega) hS hN m90 m91 m92 h90 h91 h92 (by rw [g5, q_cl (by omega)]) (by rw [g6, q_cl (by omega)]) (fun k hk => (g7 k hk).1.symm) (fun k hk => (g7 k hk).2.symm) (fun k hk => (g8 k hk).symm) hw (va_cwS 4 hts (gB_S w_ml_L_70 w_st_L_isFair w_in_L w_co_L_isFair) rfl rfl rfl (by decide +kernel) ⟨Nat.le_trans (Nat.le_of_ble_eq_true rfl) hfr, Nat.le_trans (Nat.le_of_ble_eq_true rfl) hlo⟩) hl.1 (Nat.le_of_ble_eq_true rfl) hc dL_law_855 (fun S1 H locs hS1 hw => ?_)
      refine lv_if_ne (tgt := 863) hx hb dL_law_858 (by decide) (fun _ => ?_) (fun h => absurd h (by decide))
      refine lv_iinc (v := (nI (i + 1))) (lv' := [(7, .int (nI (i + 1))), (6, .ref (ad 92 0)), (5, .int (nI nr)), (4, .ref (ad 91 0)), (3, .ref (ad 90 0)), (2, .int (nI ns)), (1, .ref (ad 0 0)), (0, .ref (K0 0))]) hx hb dL_law_863 hl (k := 0) rfl (nI_1 _) (by decide) rfl (fun ls hl => ?_)
      refine lv_goto (tgt := 318) hx hb dL_law_866 (by decide) ?_
      refine W.widen (k := 200 + 6 * (i + 1)) (n := 2000 + 40 * (i + 1)) (by omega) (by omega) ?_
      exact ih (i + 1) S1 H locs ls (by omega) (hLS.stay (Nat.le_refl _) hS g1 hS1 hN) hw (lv_sub hl [0, 1, 2, 3, 4, 5, 6, 7] rfl)
    refine lv_iload hx hb dL_law_318 (lv_at hl 0 rfl) ?_
    refine lv_bipush (v := 50) hx hb dL_law_320 (by decide) ?_
    refine lv_icmp_ge (tgt := 869) hx hb dL_law_322 (by decide) (fun h => absurd h hlt) (fun _ => ?_)
    refine lv_aload_n hx hb dL_law_325 rfl (lv_at hl 7 rfl) ?_
    refine lv_iload hx hb dL_law_326 (lv_at hl 0 rfl) ?_
    refine lv_bipush (v := 16) hx hb dL_law_328 (by decide) ?_
    refine lv_irem hx hb dL_law_330 (by decide) ?_
    rw [show ((nI i) - (nI i) / 16 * 16 : Int32) = nI (i % 16) from pk_rem (by omega) (by decide) (by decide)]
    refine k_ci0 hw (k_rS (As := [.ref (K0 0), .int (nI (i % 16))]) (rest := []) ⟨hx, hb, hml, hown, hts⟩ hK hO hw (ct_L_cell h1 (k := (i % 16)) (by omega) _ (wk.hA hw hA)) (va_cwS 2 hts (gB_S w_ml_L_12 w_st_L_cell w_in_L w_co_L_cell) rfl rfl rfl (by decide +kernel) ⟨Nat.le_trans (Nat.le_of_ble_eq_true rfl) hfr, Nat.le_trans (Nat.le_of_ble_eq_true rfl) hlo⟩) rfl hl.1 rfl (Nat.le_of_ble_eq_true rfl) dL_law_331 hc) (fun H locs hw => ?_)
    refine lv_iload hx hb dL_law_334 (lv_at hl 0 rfl) ?_
    refine lv_bipush (v := 16) hx hb dL_law_336 (by decide) ?_
    refine lv_idiv hx hb dL_law_338 (by decide) ?_
    rw [show ((nI i) / 16 : Int32) = nI (i / 16) from pk_div (by omega) (by decide) (by decide)]
    refine lv_iconst (v := 2) hx hb dL_law_339 (by decide) ?_
    refine lv_imul hx hb dL_law_340 ?_
    rw [show ((nI (i / 16)) * 2 : Int32) = nI ((i / 16) * 2) from pk_mul (i / 16) 2]
    refine lv_ishr hx hb dL_law_341 ?_
    refine lv_bipush (v := 7) hx hb dL_law_342 (by decide) ?_
    refine lv_iload hx hb dL_law_344 (lv_at hl 0 rfl) ?_
    refine lv_imul hx hb dL_law_346 ?_
    rw [show (7 * (nI i) : Int32) = nI (7 * i) from pk_mul 7 i]
    refine lv_iadd hx hb dL_law_347 ?_
    obtain ⟨x, ex⟩ : ∃ x : Int32, x = ((cv K0 (i % 16)) >>> ((nI ((i / 16) * 2)) &&& 31)) + (nI (7 * i)) := ⟨_, rfl⟩
    rw [← ex]
    refine lv_istore (lv' := [(8, .int x), (7, .int (nI i)), (6, .ref (ad 92 0)), (5, .int (nI nr)), (4, .ref (ad 91 0)), (3, .ref (ad 90 0)), (2, .int (nI ns)), (1, .ref (ad 0 0)), (0, .ref (K0 0))]) hx hb dL_law_348 hl (by decide) rfl (fun ls hl => ?_)
    refine lv_aload_n hx hb dL_law_350 rfl (lv_at hl 7 rfl) ?_
    refine lv_bipush (v := 10) hx hb dL_law_351 (by decide) ?_
    refine r_many ⟨hx, hb, hml, hown, hts⟩ hK hO hL hA hw hZ hS (w := 10) (by decide) (v := nI t) (w_m10.trans ht) (cwV 1 hts (gB_V w_ml_L_33 w_im_X5_many w_se_X5_many w_in_X5 w_co_X5_many) rfl rfl rfl (by decide +kernel) ⟨Nat.le_trans (Nat.le_of_ble_eq_true rfl) hfr, Nat.le_trans (Nat.le_of_ble_eq_true rfl) hlo⟩) hl.1 (Nat.le_of_ble_eq_true rfl) hc dL_law_353 (fun H locs hw => ?_)
    refine lv_istore (lv' := [(9, .int (nI t)), (8, .int x), (7, .int (nI i)), (6, .ref (ad 92 0)), (5, .int (nI nr)), (4, .ref (ad 91 0)), (3, .ref (ad 90 0)), (2, .int (nI ns)), (1, .ref (ad 0 0)), (0, .ref (K0 0))]) hx hb dL_law_356 hl (by decide) rfl (fun ls hl => ?_)
    refine lv_aload_n hx hb dL_law_358 rfl (lv_at hl 8 rfl) ?_
    refine lv_iconst (v := 4) hx hb dL_law_359 (by decide) ?_
    refine r_many ⟨hx, hb, hml, hown, hts⟩ hK hO hL hA hw hZ hS (w := 4) (by decide) (v := nI J) (w_m4.trans hJ) (cwV 1 hts (gB_V w_ml_L_33 w_im_X5_many w_se_X5_many w_in_X5 w_co_X5_many) rfl rfl rfl (by decide +kernel) ⟨Nat.le_trans (Nat.le_of_ble_eq_true rfl) hfr, Nat.le_trans (Nat.le_of_ble_eq_true rfl) hlo⟩) hl.1 (Nat.le_of_ble_eq_true rfl) hc dL_law_360 (fun H locs hw => ?_)
    refine lv_istore (lv' := [(10, .int (nI J)), (9, .int (nI t)), (8, .int x), (7, .int (nI i)), (6, .ref (ad 92 0)), (5, .int (nI nr)), (4, .ref (ad 91 0)), (3, .ref (ad 90 0)), (2, .int (nI ns)), (1, .ref (ad 0 0)), (0, .ref (K0 0))]) hx hb dL_law_363 hl (by decide) rfl (fun ls hl => ?_)
    refine lv_iload hx hb dL_law_365 (lv_at hl 2 rfl) ?_
    refine lv_bipush (v := 9) hx hb dL_law_367 (by decide) ?_
    refine k_ci0 hw (k_rS (As := [.int x, .int (nI 9)]) (rest := []) ⟨hx, hb, hml, hown, hts⟩ hK hO hw (ct_L_below x (n := 9) (by omega) (by omega) _ (wk.hA hw hA)) (va_cwS 2 hts (gB_S w_ml_L_18 w_st_L_below w_in_L w_co_L_below) rfl rfl rfl (by decide +kernel) ⟨Nat.le_trans (Nat.le_of_ble_eq_true rfl) hfr, Nat.le_trans (Nat.le_of_ble_eq_true rfl) hlo⟩) rfl hl.1 rfl (Nat.le_of_ble_eq_true rfl) dL_law_369 hc) (fun H locs hw => ?_)
    obtain ⟨q, hq, eq⟩ : ∃ q : Nat, q < 9 ∧ q = bl x 9 := ⟨_, bl_lt (by omega), rfl⟩
    rw [← eq]
    by_cases z0 : q = 0
    · subst z0
      refine lv_tableIn (off := 36) (tgt := 408) hx hb dL_law_372 (by decide) (by decide) rfl (by decide) ?_
      exact law_c0 ⟨hx, hb, hml, hown, hts⟩ hK hO hL hA hst hfr hlo hRc hRs h1 m90 m91 m92 hns4 hns hnr h90 h91 h92 (by omega) hLS hJ ht hJ8 htI k849 hw (lv_sub hl [0, 1, 2, 3, 4, 5, 6, 7, 8, 9, 10] rfl)
    by_cases z1 : q = 1
    · subst z1
      refine lv_tableIn (off := 75) (tgt := 447) hx hb dL_law_372 (by decide) (by decide) rfl (by decide) ?_
      exact law_c1 ⟨hx, hb, hml, hown, hts⟩ hK hO hL hA hst hfr hlo hRc hRs h1 m90 m91 m92 hns4 hns hnr h90 h91 h92 (by omega) hLS hJ ht hJ8 htI k849 hw (lv_sub hl [0, 1, 2, 3, 4, 5, 6, 7, 8, 9, 10] rfl)
    by_cases z2 : q = 2
    · subst z2
      refine lv_tableIn (off := 146) (tgt := 518) hx hb dL_law_372 (by decide) (by decide) rfl (by decide) ?_
      exact law_c2 ⟨hx, hb, hml, hown, hts⟩ hK hO hL hA hst hfr hlo hRc hRs h1 m90 m91 m92 hns4 hns hnr h90 h91 h92 (by omega) hLS hJ ht hJ8 htI k849 hw (lv_sub hl [0, 1, 2, 3, 4, 5, 6, 7, 8, 9, 10] rfl)
    by_cases z3 : q = 3
    · subst z3
      refine lv_tableIn (off := 183) (tgt := 555) hx hb dL_law_372 (by decide) (by decide) rfl (by decide) ?_
      exact law_c3 ⟨hx, hb, hml, hown, hts⟩ hK hO hL hA hst hfr hlo hRc hRs h1 m90 m91 m92 hns4 hns hnr h90 h91 h92 (by omega) hLS hJ ht hJ8 htI k849 hw (lv_sub hl [0, 1, 2, 3, 4, 5, 6, 7, 8, 9, 10] rfl)
    by_cases z4 : q = 4
    · subst z4
      refine lv_tableIn (off := 241) (tgt := 613) hx hb dL_law_372 (by decide) (by decide) rfl (by decide) ?_
      exact law_c4 ⟨hx, hb, hml, hown, hts⟩ hK hO hL hA hst hfr hlo hRc hRs h1 m90 m91 m92 hns4 hns hnr h90 h91 h92 (by omega) hLS hJ ht hJ8 htI k849 hw (lv_sub hl [0, 1, 2, 3, 4, 5, 6, 7, 8, 9, 10] rfl)
    refine lv_tableOut (tgt := 715) hx hb dL_law_372 (sw_out5 (fun y => z0 (q_inj (b := 0) (by omega) (by decide) y)) (fun y => z1 (q_inj (b := 1) (by omega) (by decide) y)) (fun y => z2 (q_inj (b := 2) (by omega) (by decide) y)) (fun y => z3 (q_inj (b := 3) (by omega) (by decide) y)) (fun y => z4 (q_inj (b := 4) (by omega) (by decide) y))) (by decide) ?_
    exact law_c5 ⟨hx, hb, hml, hown, hts⟩ hK hO hL hA hst hfr hlo hRc hRs h1 m90 m91 m92 hns4 hns hnr n93 (by omega) hLS hJ ht hJ8 htI k849 hw (lv_sub hl [0, 1, 2, 3, 4, 5, 6, 7, 8, 9, 10] rfl)

end P24P
