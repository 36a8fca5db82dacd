section P24L
def LA (kd nd : Nat → Int32) (k : Nat) (S : STT) : Prop := ∃ r M, r ≤ k ∧ RLn r S M ∧ S 0 0 0 = 0 ∧ S 0 0 1 = 0 ∧ ST S ∧ (∀ s, s < 20 → (S 18 0 s).toInt ≤ 199) ∧ S 1 0 0 = nI k ∧ S 1 0 1 = 0 ∧ (∀ a, a < k → S 7 0 a = kd a ∧ S 9 0 a = nd a) ∧ (∀ q, q < 4 → S 11 0 q = 0)
theorem LA.next {kd nd : Nat → Int32} {k r : Nat} {S T M' : STT} {p1 p3 : Int32} (h : LA kd nd k S) (hr : r ≤ k) (hT : RLn (r + 1) T M') (e : ∀ f, (f ≠ 1 ∧ f ≠ 7 ∧ f ≠ 8 ∧ f ≠ 9 ∧ f ≠ 10) → T f = S f) (e1 : T 1 0 0 = nI (k + 1)) (e2 : T 1 0 1 = S 1 0 1) (e7 : T 7 0 = upd (S 7 0) k p1) (e9 : T 9 0 = upd (S 9 0) k p3) : LA (upd kd k p1) (upd nd k p3) (k + 1) T := by
  obtain ⟨r0, M, -, -, g2, g3, g4, g5, g6, g7, g8, g9⟩ := h
  have e0 := e 0 (by decide)
  refine ⟨r + 1, M', by omega, hT, by rw [e0]; exact g2, by rw [e0]; exact g3, g4.same (e 19 (by decide)) (e 20 (by decide)), by rw [e 18 (by decide)]; exact g5, e1, by rw [e2]; exact g7, fun a ha => ?_, by rw [e 11 (by decide)]; exact g9⟩
  rw [e7, e9]
  by_cases z : a = k
  · subst z; exact ⟨by rw [upd_e, upd_e], by rw [upd_e, upd_e]⟩
  · rw [upd_n z, upd_n z, upd_n z, upd_n z]; exact g8 a (by omega)
theorem kind_ok {q x : Nat} (hx : x < 256) (h2 : ¬ q = 0 → x < 2) (hq : q < 4) : ¬ sp_X5_isOfKind (nI q) (nI x) = 0 := by
  unfold sp_X5_isOfKind
  by_cases c : q = 0
  · subst c
    rw [if_pos (show nI 0 = 0 from rfl)]
    exact within_n (a := 0) (b := 255) (Nat.zero_le x) (by omega) (by decide)
  · rw [if_neg (show ¬ nI q = 0 from fun z => c (q_inj (b := 0) (by omega) (by decide) z))]
    by_cases d : nI q = 1
    · rw [if_pos d, if_neg (show ¬ sp_X5_isWithin (nI x) 0 3 = 0 from within_n (a := 0) (b := 3) (Nat.zero_le x) (by have := h2 c; omega) (by decide))]; decide
    · rw [if_neg d]; decide

set_option maxHeartbeats 4000000 in
set_option maxRecDepth 100000 in
theorem law_steps {p : Program} {l : Launch} {e : Env} {R : Room} {s : State} {m : MethodId} {args : Array Value} {below : List Frame} {meth : Method} {c : Code} {Q : State → Prop} {D : va_G} {cI cG cJ cO : ClassId} {K0 : Nat → Nat} {A : Nat → Prop} {L : List (Nat × Nat)} {ad : Nat → Nat → Nat} (F : CallFix p m c cL_law 17 s args BIG RL) (hK : va_K D vwCl (ktys cI cG cJ cO) s) (hO : OW A K0 s) (hL : ∀ f o, cid f o = true → (f, o) ∈ L) (hA : ∀ q, s.heap.size ≤ q → A q) (hst : l.stackTraces = false) (hfr : 8 ≤ R.frames) (hlo : 180 ≤ R.locals) (hRc : 2000 ≤ R.cells) (hRs : 20000 ≤ R.slots) (h1 : K0 1 < 2 ^ 31) (m90 : (90, 0) ∈ L) (m91 : (91, 0) ∈ L) {ns : Nat} (hns4 : 4 ≤ ns) (hns : ns ≤ 10) (kk : ∀ (kd nd : Nat → Int32) (S : STT) (ce : Nat → Nat → va_E) (H : Heap) (locs : List Loc) (ls : Array Slot), LA kd nd ns S → ce 90 0 = .inl (cI, ns, .inl kd) → ce 91 0 = .inl (cI, ns, .inl nd) → wk D A L ad (cK cI cJ ad ce S) s.heap H locs → lv_has ls 17 [(4, .ref (ad 91 0)), (3, .ref (ad 90 0)), (2, .int (nI ns)), (1, .ref (ad 0 0)), (0, .ref (K0 0))] → W p l e R s m args below meth c H locs (100 + 2 * ns) (1000 + 12 * ns) Q (F0 m 165 ls [])) : ∀ (n i : Nat) (kd nd : Nat → Int32) (S : STT) (ce : Nat → Nat → va_E) (H : Heap) (locs : List Loc) (ls : Array Slot), i + n = ns → LA kd nd i S → ce 90 0 = .inl (cI, ns, .inl kd) → ce 91 0 = .inl (cI, ns, .inl nd) → wk D A L ad (cK cI cJ ad ce S) s.heap H locs → lv_has ls 17 [(5, .int (nI i)), (4, .ref (ad 91 0)), (3, .ref (ad 90 0)), (2, .int (nI ns)), (1, .ref (ad 0 0)), (0, .ref (K0 0))] → W p l e R s m args below meth c H locs (100 + 2 * i) (1000 + 12 * i) Q (F0 m 33 ls []) := by
  obtain ⟨hx, hb, hml, hown, hts⟩ := F
  intro n
  induction n with
  | zero =>
    intro i kd nd S ce H locs ls hi hLA h90 h91 hw hl
    obtain rfl : i = ns := hi
    have hc : 100 + 2 * i ≤ R.cells ∧ 1000 + 12 * i ≤ R.slots := ⟨by omega, by omega⟩
    refine lv_iload hx hb dL_law_33 (lv_at hl 0 rfl) ?_
    refine lv_iload_n hx hb dL_law_35 rfl (lv_at hl 3 rfl) ?_
    refine lv_icmp_ge (tgt := 165) hx hb dL_law_36 (by decide) (fun _ => ?_) (fun h => absurd (nI_le (Nat.le_refl _) (by omega)) h)
    exact kk kd nd S ce H locs ls hLA h90 h91 hw (lv_sub hl [1, 2, 3, 4, 5] rfl)
  | succ n ih =>
    intro i kd nd S ce H locs ls hi hLA h90 h91 hw hl
    have hlt : ¬ nI ns ≤ nI i := nI_ge (by omega) (by omega)
    have hc : 100 + 2 * i ≤ R.cells ∧ 1000 + 12 * i ≤ R.slots := ⟨by omega, by omega⟩
    obtain ⟨r, M, g1, hS, g2, g3, g4, g5, g6, g7, g8, g9⟩ := id hLA
    have hp1 : 2 ^ i ≤ 2 ^ 10 := Nat.pow_le_pow_right (by decide) (by omega)
    have hp0 : 0 < 2 ^ i := pow_pos i
    refine lv_iload hx hb dL_law_33 (lv_at hl 0 rfl) ?_
    refine lv_iload_n hx hb dL_law_35 rfl (lv_at hl 3 rfl) ?_
    refine lv_icmp_ge (tgt := 165) hx hb dL_law_36 (by decide) (fun h => absurd h hlt) (fun _ => ?_)
    refine lv_aload_n hx hb dL_law_39 rfl (lv_at hl 2 rfl) ?_
    refine lv_iload hx hb dL_law_40 (lv_at hl 0 rfl) ?_
    refine lv_aload_n hx hb dL_law_42 rfl (lv_at hl 5 rfl) ?_
    refine lv_iload hx hb dL_law_43 (lv_at hl 0 rfl) ?_
    refine k_ci0 hw (k_rS (As := [.ref (K0 0), .int (nI i)]) (rest := [.int (nI i), .ref (ad 90 0)]) ⟨hx, hb, hml, hown, hts⟩ hK hO hw (ct_L_cell h1 (k := i) (by omega) _ (wk.hA hw hA)) (va_cwS 2 hts (gB_S w_ml_L_12 w_st_L_cell w_in_L w_co_L_cell) rfl rfl rfl (by decide +kernel) ⟨Nat.le_trans (Nat.le_of_ble_eq_true rfl) hfr, Nat.le_trans (Nat.le_of_ble_eq_true rfl) hlo⟩) rfl hl.1 rfl (Nat.le_of_ble_eq_true rfl) dL_law_45 hc) (fun H locs hw => ?_)
    refine lv_iconst (v := 4) hx hb dL_law_48 (by decide) ?_
    refine k_ci0 hw (k_rS (As := [.int (cv K0 i), .int (nI 4)]) (rest := [.int (nI i), .ref (ad 90 0)]) ⟨hx, hb, hml, hown, hts⟩ hK hO hw (ct_L_below (cv K0 i) (n := 4) (by omega) (by omega) _ (wk.hA hw hA)) (va_cwS 2 hts (gB_S w_ml_L_18 w_st_L_below w_in_L w_co_L_below) rfl rfl rfl (by decide +kernel) ⟨Nat.le_trans (Nat.le_of_ble_eq_true rfl) hfr, Nat.le_trans (Nat.le_of_ble_eq_true rfl) hlo⟩) rfl hl.1 rfl (Nat.le_of_ble_eq_true rfl) dL_law_49 hc) (fun H locs hw => ?_)
    obtain ⟨qk, hqk, eqk⟩ : ∃ q : Nat, q < 4 ∧ q = bl (cv K0 i) 4 := ⟨_, bl_lt (by omega), rfl⟩
    rw [← eqk]
    refine r_ast ⟨hx, hb, hml, hown, hts⟩ hK hw (i := i) m90 (by decide) h90 (by omega) (by omega) dL_law_52 (fun ce H locs h90 hce hw => ?_)
    have h91 := (hce 91 0 (by decide)).trans h91
    refine lv_aload hx hb dL_law_53 (lv_at hl 1 rfl) ?_
    refine lv_iload hx hb dL_law_55 (lv_at hl 0 rfl) ?_
    refine lv_aload_n hx hb dL_law_57 rfl (lv_at hl 5 rfl) ?_
    refine lv_iload hx hb dL_law_58 (lv_at hl 0 rfl) ?_
    refine k_ci0 hw (k_rS (As := [.ref (K0 0), .int (nI i)]) (rest := [.int (nI i), .ref (ad 91 0)]) ⟨hx, hb, hml, hown, hts⟩ hK hO hw (ct_L_cell h1 (k := i) (by omega) _ (wk.hA hw hA)) (va_cwS 2 hts (gB_S w_ml_L_12 w_st_L_cell w_in_L w_co_L_cell) rfl rfl rfl (by decide +kernel) ⟨Nat.le_trans (Nat.le_of_ble_eq_true rfl) hfr, Nat.le_trans (Nat.le_of_ble_eq_true rfl) hlo⟩) rfl hl.1 rfl (Nat.le_of_ble_eq_true rfl) dL_law_60 hc) (fun H locs hw => ?_)
    refine lv_iconst (v := 3) hx hb dL_law_63 (by decide) ?_
    refine lv_ishr hx hb dL_law_64 ?_
    refine lv_iconst (v := 1) hx hb dL_law_65 (by decide) ?_
    refine lv_iload hx hb dL_law_66 (lv_at hl 0 rfl) ?_
    refine lv_ishl hx hb dL_law_68 ?_
    rw [shl_1 (n := i) (by omega)]
    refine k_ci0 hw (k_rS (As := [.int ((cv K0 i) >>> (3 &&& 31)), .int (nI (2 ^ i))]) (rest := [.int (nI i), .ref (ad 91 0)]) ⟨hx, hb, hml, hown, hts⟩ hK hO hw (ct_L_below ((cv K0 i) >>> (3 &&& 31)) (n := (2 ^ i)) (by omega) (by omega) _ (wk.hA hw hA)) (va_cwS 2 hts (gB_S w_ml_L_18 w_st_L_below w_in_L w_co_L_below) rfl rfl rfl (by decide +kernel) ⟨Nat.le_trans (Nat.le_of_ble_eq_true rfl) hfr, Nat.le_trans (Nat.le_of_ble_eq_true rfl) hlo⟩) rfl hl.1 rfl (Nat.le_of_ble_eq_true rfl) dL_law_69 hc) (fun H locs hw => ?_)
    refine lv_aload_n hx hb dL_law_72 rfl (lv_at hl 5 rfl) ?_
    refine lv_iload hx hb dL_law_73 (lv_at hl 0 rfl) ?_
    refine lv_iconst (v := 1) hx hb dL_law_75 (by decide) ?_
    refine lv_iadd hx hb dL_law_76 ?_
    rw [show ((nI i) + 1 : Int32) = nI (i + 1) from nI_add i 1]
    refine k_ci0 hw (k_rS (As := [.ref (K0 0), .int (nI (i + 1))]) (rest := [.int (nI (bl ((cv K0 i) >>> (3 &&& 31)) (2 ^ i))), .int (nI i), .ref (ad 91 0)]) ⟨hx, hb, hml, hown, hts⟩ hK hO hw (ct_L_cell h1 (k := (i + 1)) (by omega) _ (wk.hA hw hA)) (va_cwS 2 hts (gB_S w_ml_L_12 w_st_L_cell w_in_L w_co_L_cell) rfl rfl rfl (by decide +kernel) ⟨Nat.le_trans (Nat.le_of_ble_eq_true rfl) hfr, Nat.le_trans (Nat.le_of_ble_eq_true rfl) hlo⟩) rfl hl.1 rfl (Nat.le_of_ble_eq_true rfl) dL_law_77 hc) (fun H locs hw => ?_)
    refine lv_iconst (v := 2) hx hb dL_law_80 (by decide) ?_
    refine lv_ishr hx hb dL_law_81 ?_
    refine lv_iconst (v := 1) hx hb dL_law_82 (by decide) ?_
    refine lv_iload hx hb dL_law_83 (lv_at hl 0 rfl) ?_
    refine lv_ishl hx hb dL_law_85 ?_
    rw [shl_1 (n := i) (by omega)]
    refine k_ci0 hw (k_rS (As := [.int ((cv K0 (i + 1)) >>> (2 &&& 31)), .int (nI (2 ^ i))]) (rest := [.int (nI (bl ((cv K0 i) >>> (3 &&& 31)) (2 ^ i))), .int (nI i), .ref (ad 91 0)]) ⟨hx, hb, hml, hown, hts⟩ hK hO hw (ct_L_below ((cv K0 (i + 1)) >>> (2 &&& 31)) (n := (2 ^ i)) (by omega) (by omega) _ (wk.hA hw hA)) (va_cwS 2 hts (gB_S w_ml_L_18 w_st_L_below w_in_L w_co_L_below) rfl rfl rfl (by decide +kernel) ⟨Nat.le_trans (Nat.le_of_ble_eq_true rfl) hfr, Nat.le_trans (Nat.le_of_ble_eq_true rfl) hlo⟩) rfl hl.1 rfl (Nat.le_of_ble_eq_true rfl) dL_law_86 hc) (fun H locs hw => ?_)
    refine lv_iand hx hb dL_law_89 ?_
    refine r_ast ⟨hx, hb, hml, hown, hts⟩ hK hw (i := i) m91 (by decide) h91 (by omega) (by omega) dL_law_90 (fun ce H locs h91 hce hw => ?_)
    have h90 := (hce 90 0 (by decide)).trans h90
    refine lv_aload_n hx hb dL_law_91 rfl (lv_at hl 4 rfl) ?_
    refine lv_aload_n hx hb dL_law_92 rfl (lv_at hl 2 rfl) ?_
    refine lv_iload hx hb dL_law_93 (lv_at hl 0 rfl) ?_
    refine r_ald ⟨hx, hb, hml, hown, hts⟩ hK hw (i := i) (v := nI qk) m90 (by decide) h90 (by omega) (by omega) upd_e dL_law_95 ?_
    refine lv_iconst (v := 1) hx hb dL_law_96 (by decide) ?_
    refine lv_aload_n hx hb dL_law_97 rfl (lv_at hl 5 rfl) ?_
    refine lv_iload hx hb dL_law_98 (lv_at hl 0 rfl) ?_
    refine lv_iconst (v := 2) hx hb dL_law_100 (by decide) ?_
    refine lv_iadd hx hb dL_law_101 ?_
    rw [show ((nI i) + 2 : Int32) = nI (i + 2) from nI_add i 2]
    refine k_ci0 hw (k_rS (As := [.ref (K0 0), .int (nI (i + 2))]) (rest := [.int 1, .int (nI qk), .ref (ad 0 0)]) ⟨hx, hb, hml, hown, hts⟩ hK hO hw (ct_L_cell h1 (k := (i + 2)) (by omega) _ (wk.hA hw hA)) (va_cwS 2 hts (gB_S w_ml_L_12 w_st_L_cell w_in_L w_co_L_cell) rfl rfl rfl (by decide +kernel) ⟨Nat.le_trans (Nat.le_of_ble_eq_true rfl) hfr, Nat.le_trans (Nat.le_of_ble_eq_true rfl) hlo⟩) rfl hl.1 rfl (Nat.le_of_ble_eq_true rfl) dL_law_102 hc) (fun H locs hw => ?_)
    refine lv_iconst (v := 4) hx hb dL_law_105 (by decide) ?_
    refine k_ci0 hw (k_rS (As := [.int (cv K0 (i + 2)), .int (nI 4)]) (rest := [.int 1, .int (nI qk), .ref (ad 0 0)]) ⟨hx, hb, hml, hown, hts⟩ hK hO hw (ct_L_below (cv K0 (i + 2)) (n := 4) (by omega) (by omega) _ (wk.hA hw hA)) (va_cwS 2 hts (gB_S w_ml_L_18 w_st_L_below w_in_L w_co_L_below) rfl rfl rfl (by decide +kernel) ⟨Nat.le_trans (Nat.le_of_ble_eq_true rfl) hfr, Nat.le_trans (Nat.le_of_ble_eq_true rfl) hlo⟩) rfl hl.1 rfl (Nat.le_of_ble_eq_true rfl) dL_law_106 hc) (fun H locs hw => ?_)
    obtain ⟨ql, hql, eql⟩ : ∃ q : Nat, q < 4 ∧ q = bl (cv K0 (i + 2)) 4 := ⟨_, bl_lt (by omega), rfl⟩
    rw [← eql]
    refine lv_iadd hx hb dL_law_109 ?_
    rw [show (1 + (nI ql) : Int32) = nI (1 + ql) from nI_add 1 ql]
    refine lv_aload hx hb dL_law_110 (lv_at hl 1 rfl) ?_
    refine lv_iload hx hb dL_law_112 (lv_at hl 0 rfl) ?_
    refine r_ald ⟨hx, hb, hml, hown, hts⟩ hK hw (i := i) (v := (nI (bl ((cv K0 i) >>> (3 &&& 31)) (2 ^ i)) &&& nI (bl ((cv K0 (i + 1)) >>> (2 &&& 31)) (2 ^ i)))) m91 (by decide) h91 (by omega) (by omega) upd_e dL_law_114 ?_
    refine lv_aload_n hx hb dL_law_115 rfl (lv_at hl 2 rfl) ?_
    refine lv_iload hx hb dL_law_116 (lv_at hl 0 rfl) ?_
    refine r_ald ⟨hx, hb, hml, hown, hts⟩ hK hw (i := i) (v := nI qk) m90 (by decide) h90 (by omega) (by omega) upd_e dL_law_118 ?_
    by_cases z0 : qk = 0
    · refine lv_if_ne (tgt := 139) hx hb dL_law_119 (by decide) (fun h => absurd (show nI qk = 0 by rw [z0]; rfl) h) (fun _ => ?_)
      refine lv_aload_n hx hb dL_law_122 rfl (lv_at hl 5 rfl) ?_
      refine lv_iload hx hb dL_law_123 (lv_at hl 0 rfl) ?_
      refine k_ci0 hw (k_rS (As := [.ref (K0 0), .int (nI i)]) (rest := [.int (nI (bl ((cv K0 i) >>> (3 &&& 31)) (2 ^ i)) &&& nI (bl ((cv K0 (i + 1)) >>> (2 &&& 31)) (2 ^ i))), .int (nI (1 + ql)), .int (nI qk), .ref (ad 0 0)]) ⟨hx, hb, hml, hown, hts⟩ hK hO hw (ct_L_cell h1 (k := i) (by omega) _ (wk.hA hw hA)) (va_cwS 2 hts (gB_S w_ml_L_12 w_st_L_cell w_in_L w_co_L_cell) rfl rfl rfl (by decide +kernel) ⟨Nat.le_trans (Nat.le_of_ble_eq_true rfl) hfr, Nat.le_trans (Nat.le_of_ble_eq_true rfl) hlo⟩) rfl hl.1 rfl (Nat.le_of_ble_eq_true rfl) dL_law_125 hc) (fun H locs hw => ?_)
      refine lv_iconst (v := 4) hx hb dL_law_128 (by decide) ?_
      refine lv_ishr hx hb dL_law_129 ?_
      refine lv_sipush (v := 256) hx hb dL_law_130 (by decide) ?_
      refine k_ci0 hw (k_rS (As := [.int ((cv K0 i) >>> (4 &&& 31)), .int (nI 256)]) (rest := [.int (nI (bl ((cv K0 i) >>> (3 &&& 31)) (2 ^ i)) &&& nI (bl ((cv K0 (i + 1)) >>> (2 &&& 31)) (2 ^ i))), .int (nI (1 + ql)), .int (nI qk), .ref (ad 0 0)]) ⟨hx, hb, hml, hown, hts⟩ hK hO hw (ct_L_below ((cv K0 i) >>> (4 &&& 31)) (n := 256) (by omega) (by omega) _ (wk.hA hw hA)) (va_cwS 2 hts (gB_S w_ml_L_18 w_st_L_below w_in_L w_co_L_below) rfl rfl rfl (by decide +kernel) ⟨Nat.le_trans (Nat.le_of_ble_eq_true rfl) hfr, Nat.le_trans (Nat.le_of_ble_eq_true rfl) hlo⟩) rfl hl.1 rfl (Nat.le_of_ble_eq_true rfl) dL_law_133 hc) (fun H locs hw => ?_)
      obtain ⟨qo, hqo, eqo⟩ : ∃ q : Nat, q < 256 ∧ q = bl ((cv K0 i) >>> (4 &&& 31)) 256 := ⟨_, bl_lt (by omega), rfl⟩
      rw [← eqo]
      refine lv_goto (tgt := 149) hx hb dL_law_136 (by decide) ?_
      obtain ⟨e0, e1, ⟨M1, e2⟩, e3, e4, e5, e6, e7⟩ := n_step (r := r) (by omega) hS (n := i) g6 (by omega) (p1 := nI qk) (p2 := nI (1 + ql)) (p3 := (nI (bl ((cv K0 i) >>> (3 &&& 31)) (2 ^ i)) &&& nI (bl ((cv K0 (i + 1)) >>> (2 &&& 31)) (2 ^ i)))) (p4 := nI qo) (within_n (a := 0) (b := 3) (Nat.zero_le _) (by omega) (by decide)) (within_n (a := 1) (b := 9) (by omega) (by omega) (by decide)) (lb_and (lb_nI (by omega) (bl_lt hp0))) (kind_ok (by omega) (fun z => absurd z0 z) hqk)
      refine x_ci hw (x_rV (As := [.int (nI qk), .int (nI (1 + ql)), .int (nI (bl ((cv K0 i) >>> (3 &&& 31)) (2 ^ i)) &&& nI (bl ((cv K0 (i + 1)) >>> (2 &&& 31)) (2 ^ i))), .int (nI qo)]) (rest := []) ⟨hx, hb, hml, hown, hts⟩ hK hO hw (ct_X5_step hL S (RLn.ci hS).1 (nI qk) (nI (1 + ql)) (nI (bl ((cv K0 i) >>> (3 &&& 31)) (2 ^ i)) &&& nI (bl ((cv K0 (i + 1)) >>> (2 &&& 31)) (2 ^ i))) (nI qo) hst _ (wk.hA hw hA)) (cwV 4 hts (gB_V w_ml_L_22 w_im_X5_step w_se_X5_step w_in_X5 w_co_X5_step) rfl rfl rfl (by decide +kernel) ⟨Nat.le_trans (Nat.le_of_ble_eq_true rfl) hfr, Nat.le_trans (Nat.le_of_ble_eq_true rfl) hlo⟩) (hL 0 0 rfl) cke_0 rfl rfl hl.1 rfl (Nat.le_of_ble_eq_true rfl) dL_law_149 ⟨by omega, by omega⟩) (fun E cx q9 H locs hx9 hw hcx hvx hclx => absurd e0 hx9.ne) (fun H locs hc0 hw => ?_)
      rw [e1]
      generalize (sp_X5_step S (nI qk) (nI (1 + ql)) (nI (bl ((cv K0 i) >>> (3 &&& 31)) (2 ^ i)) &&& nI (bl ((cv K0 (i + 1)) >>> (2 &&& 31)) (2 ^ i))) (nI qo)).2.2 = S1 at e2 e3 e4 e5 e6 e7 hw
      have hLA1 := hLA.next g1 e2 e3 e4 e5 e6 e7
      refine W.widen (k := 100 + 2 * (i + 1)) (n := 1000 + 12 * (i + 1)) (by omega) (by omega) ?_
      refine lv_iload hx hb dL_law_152 (lv_at hl 0 rfl) ?_
      refine lv_icmp_eq (tgt := 159) hx hb dL_law_154 (by decide) (fun _ => ?_) (fun h => absurd rfl h)
      refine lv_iinc (v := (nI (i + 1))) (lv' := [(5, .int (nI (i + 1))), (4, .ref (ad 91 0)), (3, .ref (ad 90 0)), (2, .int (nI ns)), (1, .ref (ad 0 0)), (0, .ref (K0 0))]) hx hb dL_law_159 hl (k := 0) rfl (nI_1 _) (by decide) rfl (fun ls hl => ?_)
      refine lv_goto (tgt := 33) hx hb dL_law_162 (by decide) ?_
      exact ih (i + 1) _ _ S1 ce H locs ls (by omega) hLA1 h90 h91 hw (lv_sub hl [0, 1, 2, 3, 4, 5] rfl)
    · refine lv_if_ne (tgt := 139) hx hb dL_law_119 (by decide) (fun _ => ?_) (fun h => absurd h (fun z => z0 (q_inj (b := 0) (by omega) (by decide) z)))
      refine lv_aload_n hx hb dL_law_139 rfl (lv_at hl 5 rfl) ?_
      refine lv_iload hx hb dL_law_140 (lv_at hl 0 rfl) ?_
      refine k_ci0 hw (k_rS (As := [.ref (K0 0), .int (nI i)]) (rest := [.int (nI (bl ((cv K0 i) >>> (3 &&& 31)) (2 ^ i)) &&& nI (bl ((cv K0 (i + 1)) >>> (2 &&& 31)) (2 ^ i))), .int (nI (1 + ql)), .int (nI qk), .ref (ad 0 0)]) ⟨hx, hb, hml, hown, hts⟩ hK hO hw (ct_L_cell h1 (k := i) (by omega) _ (wk.hA hw hA)) (va_cwS 2 hts (gB_S w_ml_L_12 w_st_L_cell w_in_L w_co_L_cell) rfl rfl rfl (by decide +kernel) ⟨Nat.le_trans (Nat.le_of_ble_eq_true rfl) hfr, Nat.le_trans (Nat.le_of_ble_eq_true rfl) hlo⟩) rfl hl.1 rfl (Nat.le_of_ble_eq_true rfl) dL_law_142 hc) (fun H locs hw => ?_)
      refine lv_iconst (v := 2) hx hb dL_law_145 (by decide) ?_
      refine k_ci0 hw (k_rS (As := [.int (cv K0 i), .int (nI 2)]) (rest := [.int (nI (bl ((cv K0 i) >>> (3 &&& 31)) (2 ^ i)) &&& nI (bl ((cv K0 (i + 1)) >>> (2 &&& 31)) (2 ^ i))), .int (nI (1 + ql)), .int (nI qk), .ref (ad 0 0)]) ⟨hx, hb, hml, hown, hts⟩ hK hO hw (ct_L_below (cv K0 i) (n := 2) (by omega) (by omega) _ (wk.hA hw hA)) (va_cwS 2 hts (gB_S w_ml_L_18 w_st_L_below w_in_L w_co_L_below) rfl rfl rfl (by decide +kernel) ⟨Nat.le_trans (Nat.le_of_ble_eq_true rfl) hfr, Nat.le_trans (Nat.le_of_ble_eq_true rfl) hlo⟩) rfl hl.1 rfl (Nat.le_of_ble_eq_true rfl) dL_law_146 hc) (fun H locs hw => ?_)
      obtain ⟨qo, hqo, eqo⟩ : ∃ q : Nat, q < 2 ∧ q = bl (cv K0 i) 2 := ⟨_, bl_lt (by omega), rfl⟩
      rw [← eqo]
      obtain ⟨e0, e1, ⟨M1, e2⟩, e3, e4, e5, e6, e7⟩ := n_step (r := r) (by omega) hS (n := i) g6 (by omega) (p1 := nI qk) (p2 := nI (1 + ql)) (p3 := (nI (bl ((cv K0 i) >>> (3 &&& 31)) (2 ^ i)) &&& nI (bl ((cv K0 (i + 1)) >>> (2 &&& 31)) (2 ^ i)))) (p4 := nI qo) (within_n (a := 0) (b := 3) (Nat.zero_le _) (by omega) (by decide)) (within_n (a := 1) (b := 9) (by omega) (by omega) (by decide)) (lb_and (lb_nI (by omega) (bl_lt hp0))) (kind_ok (by omega) (fun _ => by omega) hqk)
      refine x_ci hw (x_rV (As := [.int (nI qk), .int (nI (1 + ql)), .int (nI (bl ((cv K0 i) >>> (3 &&& 31)) (2 ^ i)) &&& nI (bl ((cv K0 (i + 1)) >>> (2 &&& 31)) (2 ^ i))), .int (nI qo)]) (rest := []) ⟨hx, hb, hml, hown, hts⟩ hK hO hw (ct_X5_step hL S (RLn.ci hS).1 (nI qk) (nI (1 + ql)) (nI (bl ((cv K0 i) >>> (3 &&& 31)) (2 ^ i)) &&& nI (bl ((cv K0 (i + 1)) >>> (2 &&& 31)) (2 ^ i))) (nI qo) hst _ (wk.hA hw hA)) (cwV 4 hts (gB_V w_ml_L_22 w_im_X5_step w_se_X5_step w_in_X5 w_co_X5_step) rfl rfl rfl (by decide +kernel) ⟨Nat.le_trans (Nat.le_of_ble_eq_true rfl) hfr, Nat.le_trans (Nat.le_of_ble_eq_true rfl) hlo⟩) (hL 0 0 rfl) cke_0 rfl rfl hl.1 rfl (Nat.le_of_ble_eq_true rfl) dL_law_149 ⟨by omega, by omega⟩) (fun E cx q9 H locs hx9 hw hcx hvx hclx => absurd e0 hx9.ne) (fun H locs hc0 hw => ?_)
      rw [e1]
      generalize (sp_X5_step S (nI qk) (nI (1 + ql)) (nI (bl ((cv K0 i) >>> (3 &&& 31)) (2 ^ i)) &&& nI (bl ((cv K0 (i + 1)) >>> (2 &&& 31)) (2 ^ i))) (nI qo)).2.2 = S1 at e2 e3 e4 e5 e6 e7 hw
      have hLA1 := hLA.next g1 e2 e3 e4 e5 e6 e7
      refine W.widen (k := 100 + 2 * (i + 1)) (n := 1000 + 12 * (i + 1)) (by omega) (by omega) ?_
      refine lv_iload hx hb dL_law_152 (lv_at hl 0 rfl) ?_
      refine lv_icmp_eq (tgt := 159) hx hb dL_law_154 (by decide) (fun _ => ?_) (fun h => absurd rfl h)
      refine lv_iinc (v := (nI (i + 1))) (lv' := [(5, .int (nI (i + 1))), (4, .ref (ad 91 0)), (3, .ref (ad 90 0)), (2, .int (nI ns)), (1, .ref (ad 0 0)), (0, .ref (K0 0))]) hx hb dL_law_159 hl (k := 0) rfl (nI_1 _) (by decide) rfl (fun ls hl => ?_)
      refine lv_goto (tgt := 33) hx hb dL_law_162 (by decide) ?_
      exact ih (i + 1) _ _ S1 ce H locs ls (by omega) hLA1 h90 h91 hw (lv_sub hl [0, 1, 2, 3, 4, 5] rfl)

end P24L
