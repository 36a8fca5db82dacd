section P24M
def LR (kd nd st : Nat → Int32) (ns k : Nat) (S : STT) : Prop := ∃ r M, r ≤ 10 + k ∧ RLn r S M ∧ S 0 0 0 = 0 ∧ S 0 0 1 = 0 ∧ ST S ∧ (∀ s, s < 20 → (S 18 0 s).toInt ≤ 199) ∧ S 1 0 0 = nI ns ∧ S 1 0 1 = nI k ∧ (∀ a, a < ns → S 7 0 a = kd a ∧ S 9 0 a = nd a) ∧ (∀ a, a < k → S 12 0 a = st a) ∧ (∀ q, q < 4 → S 11 0 q = 0)
theorem LR.first {kd nd st : Nat → Int32} {ns : Nat} {S : STT} (hns : ns ≤ 10) (h : LA kd nd ns S) : LR kd nd st ns 0 S := by
  obtain ⟨r, M, g1, g2, g3, g4, g5, g6, g7, g8, g9, g10⟩ := h
  exact ⟨r, M, by omega, g2, g3, g4, g5, g6, g7, g8, g9, fun a ha => absurd ha (Nat.not_lt_zero a), g10⟩
theorem LR.next {kd nd st st1 : Nat → Int32} {ns k r : Nat} {S T M' : STT} {p1 : Int32} (h : LR kd nd st ns k S) (hr : r ≤ 10 + k) (hT : RLn (r + 1) T M') (e : ∀ f, (f ≠ 1 ∧ f ≠ 12) → T f = S f) (e1 : T 1 0 1 = nI (k + 1)) (e2 : T 1 0 0 = S 1 0 0) (e12 : T 12 0 = upd (S 12 0) k p1) (h1 : ∀ a, a ≠ k → st1 a = st a) (h2 : st1 k = p1) : LR kd nd st1 ns (k + 1) T := by
  obtain ⟨r0, M, -, -, g2, g3, g4, g5, g6, g7, g8, g9, g10⟩ := h
  have e0 := e 0 (by decide)
  refine ⟨r + 1, M', by omega, hT, by rw [e0]; exact g2, by rw [e0]; exact g3, g4.same (e 19 (by decide)) (e 20 (by decide)), by rw [e 18 (by decide)]; exact g5, by rw [e2]; exact g6, e1, by rw [e 7 (by decide), e 9 (by decide)]; exact g8, fun a ha => ?_, by rw [e 11 (by decide)]; exact g10⟩
  rw [e12]
  by_cases z : a = k
  · subst z; rw [upd_e, h2]
  · rw [upd_n z, h1 a z]; exact g9 a (by omega)
def LO (kd nd st : Nat → Int32) (ns nr k : Nat) (S : STT) : Prop := ∃ r M, r ≤ 16 + k ∧ RLn r S M ∧ S 0 0 0 = 0 ∧ S 0 0 1 = 0 ∧ ST S ∧ (∀ s, s < 20 → (S 18 0 s).toInt ≤ 199) ∧ S 1 0 0 = nI ns ∧ S 1 0 1 = nI nr ∧ (∀ a, a < ns → S 7 0 a = kd a ∧ S 9 0 a = nd a) ∧ (∀ a, a < nr → S 12 0 a = st a) ∧ (∀ q, q < 4 → (q < k → ¬ S 11 0 q = 0) ∧ (k ≤ q → S 11 0 q = 0))
theorem LO.first {kd nd st : Nat → Int32} {ns nr : Nat} {S : STT} (hnr : nr ≤ 6) (h : LR kd nd st ns nr S) : LO kd nd st ns nr 0 S := by
  obtain ⟨r, M, g1, g2, g3, g4, g5, g6, g7, g8, g9, g10, g11⟩ := h
  exact ⟨r, M, by omega, g2, g3, g4, g5, g6, g7, g8, g9, g10, fun q hq => ⟨fun z => absurd z (Nat.not_lt_zero q), fun _ => g11 q hq⟩⟩
theorem LO.next {kd nd st : Nat → Int32} {ns nr k r : Nat} {S T M' : STT} {p1 : Int32} (h : LO kd nd st ns nr k S) (hr : r ≤ 16 + k) (hT : RLn (r + 1) T M') (e : ∀ f, f ≠ 11 → T f = S f) (e11 : T 11 0 = upd (S 11 0) k p1) (hp : ¬ p1 = 0) : LO kd nd st ns nr (k + 1) T := by
  obtain ⟨r0, M, -, -, g2, g3, g4, g5, g6, g7, g8, g9, g10⟩ := h
  have e0 := e 0 (by decide)
  refine ⟨r + 1, M', by omega, hT, by rw [e0]; exact g2, by rw [e0]; exact g3, g4.same (e 19 (by decide)) (e 20 (by decide)), by rw [e 18 (by decide)]; exact g5, by rw [e 1 (by decide)]; exact g6, by rw [e 1 (by decide)]; exact g7, by rw [e 7 (by decide), e 9 (by decide)]; exact g8, by rw [e 12 (by decide)]; exact g9, fun q hq => ?_⟩
  rw [e11]
  by_cases z : q = k
  · subst z; rw [upd_e]; exact ⟨fun _ => hp, fun z => by omega⟩
  · rw [upd_n z]
    exact ⟨fun y => (g10 q hq).1 (by omega), fun y => (g10 q hq).2 (by omega)⟩

set_option maxHeartbeats 4000000 in
set_option maxRecDepth 100000 in
theorem law_rights {p : Program} {l : Launch} {e : Env} {R : Room} {s : State} {m : MethodId} {args : Array Value} {below : List Frame} {meth : Method} {c : Code} {Q : State → Prop} {D : va_G} {cI cG cJ cO : ClassId} {K0 : Nat → Nat} {A : Nat → Prop} {L : List (Nat × Nat)} {ad : Nat → Nat → Nat} (F : CallFix p m c cL_law 17 s args BIG RL) (hK : va_K D vwCl (ktys cI cG cJ cO) s) (hO : OW A K0 s) (hL : ∀ f o, cid f o = true → (f, o) ∈ L) (hA : ∀ q, s.heap.size ≤ q → A q) (hst : l.stackTraces = false) (hfr : 8 ≤ R.frames) (hlo : 180 ≤ R.locals) (hRc : 2000 ≤ R.cells) (hRs : 20000 ≤ R.slots) (h1 : K0 1 < 2 ^ 31) (m90 : (90, 0) ∈ L) (m91 : (91, 0) ∈ L) (m92 : (92, 0) ∈ L) {ns nr : Nat} (hns4 : 4 ≤ ns) (hns : ns ≤ 10) (hnr : nr ≤ 6) {kd nd : Nat → Int32} (kk : ∀ (st : Nat → Int32) (S : STT) (ce : Nat → Nat → va_E) (H : Heap) (locs : List Loc) (ls : Array Slot), LR kd nd st ns nr S → ce 90 0 = .inl (cI, ns, .inl kd) → ce 91 0 = .inl (cI, ns, .inl nd) → ce 92 0 = .inl (cI, nr, .inl st) → wk D A L ad (cK cI cJ ad ce S) s.heap H locs → lv_has ls 17 [(6, .ref (ad 92 0)), (5, .int (nI nr)), (4, .ref (ad 91 0)), (3, .ref (ad 90 0)), (2, .int (nI ns)), (1, .ref (ad 0 0)), (0, .ref (K0 0))] → W p l e R s m args below meth c H locs (130 + 2 * nr) (1200 + 12 * nr) Q (F0 m 270 ls [])) : ∀ (n i : Nat) (st : Nat → Int32) (S : STT) (ce : Nat → Nat → va_E) (H : Heap) (locs : List Loc) (ls : Array Slot), i + n = nr → LR kd nd st ns i S → ce 90 0 = .inl (cI, ns, .inl kd) → ce 91 0 = .inl (cI, ns, .inl nd) → ce 92 0 = .inl (cI, nr, .inl st) → wk D A L ad (cK cI cJ ad ce S) s.heap H locs → lv_has ls 17 [(7, .int (nI i)), (6, .ref (ad 92 0)), (5, .int (nI nr)), (4, .ref (ad 91 0)), (3, .ref (ad 90 0)), (2, .int (nI ns)), (1, .ref (ad 0 0)), (0, .ref (K0 0))] → W p l e R s m args below meth c H locs (130 + 2 * i) (1200 + 12 * i) Q (F0 m 187 ls []) := by
  obtain ⟨hx, hb, hml, hown, hts⟩ := F
  have hp1 : 2 ^ ns ≤ 2 ^ 10 := Nat.pow_le_pow_right (by decide) hns
  have hp0 : 2 ^ 4 ≤ 2 ^ ns := Nat.pow_le_pow_right (by decide) hns4
  intro n
  induction n with
  | zero =>
    intro i st S ce H locs ls hi hLR h90 h91 h92 hw hl
    obtain rfl : i = nr := hi
    have hc : 130 + 2 * i ≤ R.cells ∧ 1200 + 12 * i ≤ R.slots := ⟨by omega, by omega⟩
    refine lv_iload hx hb dL_law_187 (lv_at hl 0 rfl) ?_
    refine lv_iload hx hb dL_law_189 (lv_at hl 2 rfl) ?_
    refine lv_icmp_ge (tgt := 270) hx hb dL_law_191 (by decide) (fun _ => ?_) (fun h => absurd (nI_le (Nat.le_refl _) (by omega)) h)
    exact kk st S ce H locs ls hLR h90 h91 h92 hw (lv_sub hl [1, 2, 3, 4, 5, 6, 7] rfl)
  | succ n ih =>
    intro i st S ce H locs ls hi hLR h90 h91 h92 hw hl
    have hlt : ¬ nI nr ≤ nI i := nI_ge (by omega) (by omega)
    have hc : 130 + 2 * i ≤ R.cells ∧ 1200 + 12 * i ≤ R.slots := ⟨by omega, by omega⟩
    obtain ⟨r, M, g1, hS, g2, g3, g4, g5, g6, g7, g8, g9, g10⟩ := id hLR
    refine lv_iload hx hb dL_law_187 (lv_at hl 0 rfl) ?_
    refine lv_iload hx hb dL_law_189 (lv_at hl 2 rfl) ?_
    refine lv_icmp_ge (tgt := 270) hx hb dL_law_191 (by decide) (fun h => absurd h hlt) (fun _ => ?_)
    refine lv_aload hx hb dL_law_194 (lv_at hl 1 rfl) ?_
    refine lv_iload hx hb dL_law_196 (lv_at hl 0 rfl) ?_
    refine lv_iconst (v := 1) hx hb dL_law_198 (by decide) ?_
    refine lv_aload_n hx hb dL_law_199 rfl (lv_at hl 7 rfl) ?_
    refine lv_iload hx hb dL_law_200 (lv_at hl 0 rfl) ?_
    refine lv_iconst (v := 3) hx hb dL_law_202 (by decide) ?_
    refine lv_iadd hx hb dL_law_203 ?_
    rw [show ((nI i) + 3 : Int32) = nI (i + 3) from nI_add i 3]
    refine k_ci0 hw (k_rS (As := [.ref (K0 0), .int (nI (i + 3))]) (rest := [.int 1, .int (nI i), .ref (ad 92 0)]) ⟨hx, hb, hml, hown, hts⟩ hK hO hw (ct_L_cell h1 (k := (i + 3)) (by omega) _ (wk.hA hw hA)) (va_cwS 2 hts (gB_S w_ml_L_12 w_st_L_cell w_in_L w_co_L_cell) rfl rfl rfl (by decide +kernel) ⟨Nat.le_trans (Nat.le_of_ble_eq_true rfl) hfr, Nat.le_trans (Nat.le_of_ble_eq_true rfl) hlo⟩) rfl hl.1 rfl (Nat.le_of_ble_eq_true rfl) dL_law_204 hc) (fun H locs hw => ?_)
    refine lv_iconst (v := 2) hx hb dL_law_207 (by decide) ?_
    refine lv_ishr hx hb dL_law_208 ?_
    refine lv_iconst (v := 1) hx hb dL_law_209 (by decide) ?_
    refine lv_iload_n hx hb dL_law_210 rfl (lv_at hl 5 rfl) ?_
    refine lv_ishl hx hb dL_law_211 ?_
    rw [shl_1 (n := ns) (by omega)]
    refine lv_iconst (v := 1) hx hb dL_law_212 (by decide) ?_
    refine lv_isub hx hb dL_law_213 ?_
    rw [show ((nI (2 ^ ns)) - 1 : Int32) = nI ((2 ^ ns) - 1) from pk_sub (a := (2 ^ ns)) (b := 1) (by omega)]
    refine k_ci0 hw (k_rS (As := [.int ((cv K0 (i + 3)) >>> (2 &&& 31)), .int (nI ((2 ^ ns) - 1))]) (rest := [.int 1, .int (nI i), .ref (ad 92 0)]) ⟨hx, hb, hml, hown, hts⟩ hK hO hw (ct_L_below ((cv K0 (i + 3)) >>> (2 &&& 31)) (n := ((2 ^ ns) - 1)) (by omega) (by omega) _ (wk.hA hw hA)) (va_cwS 2 hts (gB_S w_ml_L_18 w_st_L_below w_in_L w_co_L_below) rfl rfl rfl (by decide +kernel) ⟨Nat.le_trans (Nat.le_of_ble_eq_true rfl) hfr, Nat.le_trans (Nat.le_of_ble_eq_true rfl) hlo⟩) rfl hl.1 rfl (Nat.le_of_ble_eq_true rfl) dL_law_214 hc) (fun H locs hw => ?_)
    obtain ⟨qx, hqx, eqx⟩ : ∃ q : Nat, q < ((2 ^ ns) - 1) ∧ q = bl ((cv K0 (i + 3)) >>> (2 &&& 31)) ((2 ^ ns) - 1) := ⟨_, bl_lt (by omega), rfl⟩
    rw [← eqx]
    refine lv_iadd hx hb dL_law_217 ?_
    rw [show (1 + (nI qx) : Int32) = nI (1 + qx) from nI_add 1 qx]
    refine lv_aload_n hx hb dL_law_218 rfl (lv_at hl 7 rfl) ?_
    refine lv_iload hx hb dL_law_219 (lv_at hl 0 rfl) ?_
    refine lv_iconst (v := 5) hx hb dL_law_221 (by decide) ?_
    refine lv_iadd hx hb dL_law_222 ?_
    rw [show ((nI i) + 5 : Int32) = nI (i + 5) from nI_add i 5]
    refine k_ci0 hw (k_rS (As := [.ref (K0 0), .int (nI (i + 5))]) (rest := [.int (nI (1 + qx)), .int (nI i), .ref (ad 92 0)]) ⟨hx, hb, hml, hown, hts⟩ hK hO hw (ct_L_cell h1 (k := (i + 5)) (by omega) _ (wk.hA hw hA)) (va_cwS 2 hts (gB_S w_ml_L_12 w_st_L_cell w_in_L w_co_L_cell) rfl rfl rfl (by decide +kernel) ⟨Nat.le_trans (Nat.le_of_ble_eq_true rfl) hfr, Nat.le_trans (Nat.le_of_ble_eq_true rfl) hlo⟩) rfl hl.1 rfl (Nat.le_of_ble_eq_true rfl) dL_law_223 hc) (fun H locs hw => ?_)
    refine lv_iconst (v := 1) hx hb dL_law_226 (by decide) ?_
    refine lv_iload_n hx hb dL_law_227 rfl (lv_at hl 5 rfl) ?_
    refine lv_ishl hx hb dL_law_228 ?_
    rw [shl_1 (n := ns) (by omega)]
    refine k_ci0 hw (k_rS (As := [.int (cv K0 (i + 5)), .int (nI (2 ^ ns))]) (rest := [.int (nI (1 + qx)), .int (nI i), .ref (ad 92 0)]) ⟨hx, hb, hml, hown, hts⟩ hK hO hw (ct_L_below (cv K0 (i + 5)) (n := (2 ^ ns)) (by omega) (by omega) _ (wk.hA hw hA)) (va_cwS 2 hts (gB_S w_ml_L_18 w_st_L_below w_in_L w_co_L_below) rfl rfl rfl (by decide +kernel) ⟨Nat.le_trans (Nat.le_of_ble_eq_true rfl) hfr, Nat.le_trans (Nat.le_of_ble_eq_true rfl) hlo⟩) rfl hl.1 rfl (Nat.le_of_ble_eq_true rfl) dL_law_229 hc) (fun H locs hw => ?_)
    obtain ⟨qy, hqy, eqy⟩ : ∃ q : Nat, q < (2 ^ ns) ∧ q = bl (cv K0 (i + 5)) (2 ^ ns) := ⟨_, bl_lt (by omega), rfl⟩
    rw [← eqy]
    refine lv_iand hx hb dL_law_232 ?_
    obtain ⟨w, ew⟩ : ∃ w : Int32, w = (nI (1 + qx)) &&& (nI qy) := ⟨_, rfl⟩
    rw [← ew]
    refine r_ast ⟨hx, hb, hml, hown, hts⟩ hK hw (i := i) m92 (by decide) h92 (by omega) (by omega) dL_law_233 (fun ce H locs h92 hce hw => ?_)
    have h90 := (hce 90 0 (by decide)).trans h90
    have h91 := (hce 91 0 (by decide)).trans h91
    refine lv_aload hx hb dL_law_234 (lv_at hl 1 rfl) ?_
    refine lv_iload hx hb dL_law_236 (lv_at hl 0 rfl) ?_
    refine r_ald ⟨hx, hb, hml, hown, hts⟩ hK hw (i := i) (v := w) m92 (by decide) h92 (by omega) (by omega) upd_e dL_law_238 ?_
    refine lv_if_ne (tgt := 248) hx hb dL_law_239 (by decide) (fun c_1 => ?_) (fun c_1 => ?_)
    · refine lv_aload_n hx hb dL_law_248 rfl (lv_at hl 6 rfl) ?_
      refine lv_aload hx hb dL_law_249 (lv_at hl 1 rfl) ?_
      refine lv_iload hx hb dL_law_251 (lv_at hl 0 rfl) ?_
      refine r_ald ⟨hx, hb, hml, hown, hts⟩ hK hw (i := i) (v := w) m92 (by decide) h92 (by omega) (by omega) upd_e dL_law_253 ?_
      obtain ⟨e0, e1, ⟨M1, e2⟩, e3, e4, e5, e6⟩ := n_right (r := r) (by omega) hS (n := i) g7 (by omega) g6 (by omega) (p1 := w) (by rw [ew]; exact lb_and (lb_nI (by omega) (by omega))) c_1
      refine x_ci hw (x_rV (As := [.int w]) (rest := []) ⟨hx, hb, hml, hown, hts⟩ hK hO hw (ct_X5_right hL S (RLn.ci hS).1 w hst _ (wk.hA hw hA)) (cwV 1 hts (gB_V w_ml_L_26 w_im_X5_right w_se_X5_right w_in_X5 w_co_X5_right) rfl rfl rfl (by decide +kernel) ⟨Nat.le_trans (Nat.le_of_ble_eq_true rfl) hfr, Nat.le_trans (Nat.le_of_ble_eq_true rfl) hlo⟩) (hL 0 0 rfl) cke_0 rfl rfl hl.1 rfl (Nat.le_of_ble_eq_true rfl) dL_law_254 ⟨by omega, by omega⟩) (fun E cx q9 H locs hx9 hw hcx hvx hclx => absurd e0 hx9.ne) (fun H locs hc0 hw => ?_)
      rw [e1]
      generalize (sp_X5_right S w).2.2 = S1 at e2 e3 e4 e5 e6 hw
      have hLR1 := hLR.next (st1 := (upd st i w)) g1 e2 e3 e4 e5 e6 (fun a ha => upd_n ha) upd_e
      refine W.widen (k := 130 + 2 * (i + 1)) (n := 1200 + 12 * (i + 1)) (by omega) (by omega) ?_
      refine lv_iload hx hb dL_law_257 (lv_at hl 0 rfl) ?_
      refine lv_icmp_eq (tgt := 264) hx hb dL_law_259 (by decide) (fun _ => ?_) (fun h => absurd rfl h)
      refine lv_iinc (v := (nI (i + 1))) (lv' := [(7, .int (nI (i + 1))), (6, .ref (ad 92 0)), (5, .int (nI nr)), (4, .ref (ad 91 0)), (3, .ref (ad 90 0)), (2, .int (nI ns)), (1, .ref (ad 0 0)), (0, .ref (K0 0))]) hx hb dL_law_264 hl (k := 0) rfl (nI_1 _) (by decide) rfl (fun ls hl => ?_)
      refine lv_goto (tgt := 187) hx hb dL_law_267 (by decide) ?_
      exact ih (i + 1) _ S1 ce H locs ls (by omega) hLR1 h90 h91 h92 hw (lv_sub hl [0, 1, 2, 3, 4, 5, 6, 7] rfl)
    · refine lv_aload hx hb dL_law_242 (lv_at hl 1 rfl) ?_
      refine lv_iload hx hb dL_law_244 (lv_at hl 0 rfl) ?_
      refine lv_iconst (v := 1) hx hb dL_law_246 (by decide) ?_
      refine r_ast ⟨hx, hb, hml, hown, hts⟩ hK hw (i := i) m92 (by decide) h92 (by omega) (by omega) dL_law_247 (fun ce H locs h92 hce hw => ?_)
      have h90 := (hce 90 0 (by decide)).trans h90
      have h91 := (hce 91 0 (by decide)).trans h91
      refine lv_aload_n hx hb dL_law_248 rfl (lv_at hl 6 rfl) ?_
      refine lv_aload hx hb dL_law_249 (lv_at hl 1 rfl) ?_
      refine lv_iload hx hb dL_law_251 (lv_at hl 0 rfl) ?_
      refine r_ald ⟨hx, hb, hml, hown, hts⟩ hK hw (i := i) (v := 1) m92 (by decide) h92 (by omega) (by omega) upd_e dL_law_253 ?_
      obtain ⟨e0, e1, ⟨M1, e2⟩, e3, e4, e5, e6⟩ := n_right (r := r) (by omega) hS (n := i) g7 (by omega) g6 (by omega) (p1 := 1) (show lb (nI 1) ns from lb_nI (by omega) (by omega)) (by decide)
      refine x_ci hw (x_rV (As := [.int 1]) (rest := []) ⟨hx, hb, hml, hown, hts⟩ hK hO hw (ct_X5_right hL S (RLn.ci hS).1 1 hst _ (wk.hA hw hA)) (cwV 1 hts (gB_V w_ml_L_26 w_im_X5_right w_se_X5_right w_in_X5 w_co_X5_right) rfl rfl rfl (by decide +kernel) ⟨Nat.le_trans (Nat.le_of_ble_eq_true rfl) hfr, Nat.le_trans (Nat.le_of_ble_eq_true rfl) hlo⟩) (hL 0 0 rfl) cke_0 rfl rfl hl.1 rfl (Nat.le_of_ble_eq_true rfl) dL_law_254 ⟨by omega, by omega⟩) (fun E cx q9 H locs hx9 hw hcx hvx hclx => absurd e0 hx9.ne) (fun H locs hc0 hw => ?_)
      rw [e1]
      generalize (sp_X5_right S 1).2.2 = S1 at e2 e3 e4 e5 e6 hw
      have hLR1 := hLR.next (st1 := (upd (upd st i w) i 1)) g1 e2 e3 e4 e5 e6 (fun a ha => (upd_n ha).trans (upd_n ha)) upd_e
      refine W.widen (k := 130 + 2 * (i + 1)) (n := 1200 + 12 * (i + 1)) (by omega) (by omega) ?_
      refine lv_iload hx hb dL_law_257 (lv_at hl 0 rfl) ?_
      refine lv_icmp_eq (tgt := 264) hx hb dL_law_259 (by decide) (fun _ => ?_) (fun h => absurd rfl h)
      refine lv_iinc (v := (nI (i + 1))) (lv' := [(7, .int (nI (i + 1))), (6, .ref (ad 92 0)), (5, .int (nI nr)), (4, .ref (ad 91 0)), (3, .ref (ad 90 0)), (2, .int (nI ns)), (1, .ref (ad 0 0)), (0, .ref (K0 0))]) hx hb dL_law_264 hl (k := 0) rfl (nI_1 _) (by decide) rfl (fun ls hl => ?_)
      refine lv_goto (tgt := 187) hx hb dL_law_267 (by decide) ?_
      exact ih (i + 1) _ S1 ce H locs ls (by omega) hLR1 h90 h91 h92 hw (lv_sub hl [0, 1, 2, 3, 4, 5, 6, 7] rfl)

set_option maxHeartbeats 4000000 in
set_option maxRecDepth 100000 in
theorem law_roles {p : Program} {l : Launch} {e : Env} {R : Room} {s : State} {m : MethodId} {args : Array Value} {below : List Frame} {meth : Method} {c : Code} {Q : State → Prop} {D : va_G} {cI cG cJ cO : ClassId} {K0 : Nat → Nat} {A : Nat → Prop} {L : List (Nat × Nat)} {ad : Nat → Nat → Nat} (F : CallFix p m c cL_law 17 s args BIG RL) (hK : va_K D vwCl (ktys cI cG cJ cO) s) (hO : OW A K0 s) (hL : ∀ f o, cid f o = true → (f, o) ∈ L) (hA : ∀ q, s.heap.size ≤ q → A q) (hst : l.stackTraces = false) (hfr : 8 ≤ R.frames) (hlo : 180 ≤ R.locals) (hRc : 2000 ≤ R.cells) (hRs : 20000 ≤ R.slots) (h1 : K0 1 < 2 ^ 31) (m90 : (90, 0) ∈ L) (m91 : (91, 0) ∈ L) (m92 : (92, 0) ∈ L) {ns nr : Nat} (hns4 : 4 ≤ ns) (hns : ns ≤ 10) (hnr : nr ≤ 6) {kd nd : Nat → Int32} {st : Nat → Int32} {ce : Nat → Nat → va_E} (kk : ∀ (S : STT) (H : Heap) (locs : List Loc) (ls : Array Slot), LO kd nd st ns nr 4 S → wk D A L ad (cK cI cJ ad ce S) s.heap H locs → lv_has ls 17 [(6, .ref (ad 92 0)), (5, .int (nI nr)), (4, .ref (ad 91 0)), (3, .ref (ad 90 0)), (2, .int (nI ns)), (1, .ref (ad 0 0)), (0, .ref (K0 0))] → W p l e R s m args below meth c H locs (150 + 2 * 4) (1300 + 12 * 4) Q (F0 m 315 ls [])) : ∀ (n i : Nat) (S : STT) (H : Heap) (locs : List Loc) (ls : Array Slot), i + n = 4 → LO kd nd st ns nr i S → wk D A L ad (cK cI cJ ad ce S) s.heap H locs → lv_has ls 17 [(7, .int (nI i)), (6, .ref (ad 92 0)), (5, .int (nI nr)), (4, .ref (ad 91 0)), (3, .ref (ad 90 0)), (2, .int (nI ns)), (1, .ref (ad 0 0)), (0, .ref (K0 0))] → W p l e R s m args below meth c H locs (150 + 2 * i) (1300 + 12 * i) Q (F0 m 273 ls []) := by
  obtain ⟨hx, hb, hml, hown, hts⟩ := F
  have hp1 : 2 ^ ns ≤ 2 ^ 10 := Nat.pow_le_pow_right (by decide) hns
  have hp0 : 2 ^ 4 ≤ 2 ^ ns := Nat.pow_le_pow_right (by decide) hns4
  intro n
  induction n with
  | zero =>
    intro i S H locs ls hi hLO hw hl
    obtain rfl : i = 4 := hi
    refine lv_iload hx hb dL_law_273 (lv_at hl 0 rfl) ?_
    refine lv_iconst (v := 4) hx hb dL_law_275 (by decide) ?_
    refine lv_icmp_ge (tgt := 315) hx hb dL_law_276 (by decide) (fun _ => ?_) (fun h => absurd (by decide) h)
    exact kk S H locs ls hLO hw (lv_sub hl [1, 2, 3, 4, 5, 6, 7] rfl)
  | succ n ih =>
    intro i S H locs ls hi hLO hw hl
    have hlt : ¬ 4 ≤ nI i := nI_ge (b := 4) (by omega) (by omega)
    have hc : 150 + 2 * i ≤ R.cells ∧ 1300 + 12 * i ≤ R.slots := ⟨by omega, by omega⟩
    obtain ⟨r, M, g1, hS, g2, g3, g4, g5, g6, g7, g8, g9, g10⟩ := id hLO
    refine lv_iload hx hb dL_law_273 (lv_at hl 0 rfl) ?_
    refine lv_iconst (v := 4) hx hb dL_law_275 (by decide) ?_
    refine lv_icmp_ge (tgt := 315) hx hb dL_law_276 (by decide) (fun h => absurd h hlt) (fun _ => ?_)
    refine lv_aload_n hx hb dL_law_279 rfl (lv_at hl 6 rfl) ?_
    refine lv_iload hx hb dL_law_280 (lv_at hl 0 rfl) ?_
    refine lv_iconst (v := 1) hx hb dL_law_282 (by decide) ?_
    refine lv_aload_n hx hb dL_law_283 rfl (lv_at hl 7 rfl) ?_
    refine lv_iload hx hb dL_law_284 (lv_at hl 0 rfl) ?_
    refine lv_bipush (v := 7) hx hb dL_law_286 (by decide) ?_
    refine lv_iadd hx hb dL_law_288 ?_
    rw [show ((nI i) + 7 : Int32) = nI (i + 7) from nI_add i 7]
    refine k_ci0 hw (k_rS (As := [.ref (K0 0), .int (nI (i + 7))]) (rest := [.int 1, .int (nI i), .ref (ad 0 0)]) ⟨hx, hb, hml, hown, hts⟩ hK hO hw (ct_L_cell h1 (k := (i + 7)) (by omega) _ (wk.hA hw hA)) (va_cwS 2 hts (gB_S w_ml_L_12 w_st_L_cell w_in_L w_co_L_cell) rfl rfl rfl (by decide +kernel) ⟨Nat.le_trans (Nat.le_of_ble_eq_true rfl) hfr, Nat.le_trans (Nat.le_of_ble_eq_true rfl) hlo⟩) rfl hl.1 rfl (Nat.le_of_ble_eq_true rfl) dL_law_289 hc) (fun H locs hw => ?_)
    refine lv_iconst (v := 1) hx hb dL_law_292 (by decide) ?_
    refine lv_iload_n hx hb dL_law_293 rfl (lv_at hl 5 rfl) ?_
    refine lv_ishl hx hb dL_law_294 ?_
    rw [shl_1 (n := ns) (by omega)]
    refine lv_iconst (v := 1) hx hb dL_law_295 (by decide) ?_
    refine lv_isub hx hb dL_law_296 ?_
    rw [show ((nI (2 ^ ns)) - 1 : Int32) = nI ((2 ^ ns) - 1) from pk_sub (a := (2 ^ ns)) (b := 1) (by omega)]
    refine k_ci0 hw (k_rS (As := [.int (cv K0 (i + 7)), .int (nI ((2 ^ ns) - 1))]) (rest := [.int 1, .int (nI i), .ref (ad 0 0)]) ⟨hx, hb, hml, hown, hts⟩ hK hO hw (ct_L_below (cv K0 (i + 7)) (n := ((2 ^ ns) - 1)) (by omega) (by omega) _ (wk.hA hw hA)) (va_cwS 2 hts (gB_S w_ml_L_18 w_st_L_below w_in_L w_co_L_below) rfl rfl rfl (by decide +kernel) ⟨Nat.le_trans (Nat.le_of_ble_eq_true rfl) hfr, Nat.le_trans (Nat.le_of_ble_eq_true rfl) hlo⟩) rfl hl.1 rfl (Nat.le_of_ble_eq_true rfl) dL_law_297 hc) (fun H locs hw => ?_)
    obtain ⟨qx, hqx, eqx⟩ : ∃ q : Nat, q < ((2 ^ ns) - 1) ∧ q = bl (cv K0 (i + 7)) ((2 ^ ns) - 1) := ⟨_, bl_lt (by omega), rfl⟩
    rw [← eqx]
    refine lv_iadd hx hb dL_law_300 ?_
    rw [show (1 + (nI qx) : Int32) = nI (1 + qx) from nI_add 1 qx]
    obtain ⟨e0, e1, ⟨M1, e2⟩, e3, e4⟩ := n_role (r := r) (by omega) hS (q := i) (by omega) g6 (by omega) (p1 := nI (1 + qx)) (lb_nI (by omega) (by omega))
    have e1 := e1.trans ((g10 i (by omega)).2 (Nat.le_refl i))
    refine x_ci hw (x_rV (As := [.int (nI i), .int (nI (1 + qx))]) (rest := []) ⟨hx, hb, hml, hown, hts⟩ hK hO hw (ct_X5_role hL S (RLn.ci hS).1 (nI i) (nI (1 + qx)) hst _ (wk.hA hw hA)) (cwV 2 hts (gB_V w_ml_L_30 w_im_X5_role w_se_X5_role w_in_X5 w_co_X5_role) rfl rfl rfl (by decide +kernel) ⟨Nat.le_trans (Nat.le_of_ble_eq_true rfl) hfr, Nat.le_trans (Nat.le_of_ble_eq_true rfl) hlo⟩) (hL 0 0 rfl) cke_0 rfl rfl hl.1 rfl (Nat.le_of_ble_eq_true rfl) dL_law_301 ⟨by omega, by omega⟩) (fun E cx q9 H locs hx9 hw hcx hvx hclx => absurd e0 hx9.ne) (fun H locs hc0 hw => ?_)
    rw [e1]
    generalize (sp_X5_role S (nI i) (nI (1 + qx))).2.2 = S1 at e2 e3 e4 hw
    have hLO1 := hLO.next g1 e2 e3 e4 (nI_ne0 (by omega) (by omega))
    refine W.widen (k := 150 + 2 * (i + 1)) (n := 1300 + 12 * (i + 1)) (by omega) (by omega) ?_
    refine lv_if_eq (tgt := 309) hx hb dL_law_304 (by decide) (fun _ => ?_) (fun h => absurd (by decide) h)
    refine lv_iinc (v := (nI (i + 1))) (lv' := [(7, .int (nI (i + 1))), (6, .ref (ad 92 0)), (5, .int (nI nr)), (4, .ref (ad 91 0)), (3, .ref (ad 90 0)), (2, .int (nI ns)), (1, .ref (ad 0 0)), (0, .ref (K0 0))]) hx hb dL_law_309 hl (k := 0) rfl (nI_1 _) (by decide) rfl (fun ls hl => ?_)
    refine lv_goto (tgt := 273) hx hb dL_law_312 (by decide) ?_
    exact ih (i + 1) S1 H locs ls (by omega) hLO1 hw (lv_sub hl [0, 1, 2, 3, 4, 5, 6, 7] rfl)

end P24M
