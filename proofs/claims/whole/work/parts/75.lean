theorem LJ_or {L : List (Nat × Nat)} {j : Nat} {i : Nat × Nat} (h : i ∈ LJ L j) : i ∈ L ∨ (jid i.1 ∧ i.2 < j) := by
  induction j with
  | zero => exact Or.inl h
  | succ j ih =>
    unfold LJ at h
    simp only [List.mem_append, List.mem_singleton] at h
    rcases h with ((((((h | h) | h) | h) | h) | h) | h)
    · exact (ih h).imp id (fun y => ⟨y.1, Nat.lt_succ_of_lt y.2⟩)
    all_goals (subst h; exact Or.inr ⟨by unfold jid; omega, Nat.lt_succ_self _⟩)
/-- the class's own ids -/
def LCl : List (Nat × Nat) := LJ ([(0, 0)] ++ [(1, 0)] ++ [(7, 0)] ++ [(8, 0)] ++ [(9, 0)] ++ [(10, 0)] ++ [(11, 0)] ++ [(12, 0)] ++ [(2, 0)] ++ [(13, 0)] ++ [(14, 0)] ++ [(15, 0)] ++ [(16, 0)] ++ [(3, 0)] ++ [(17, 0)] ++ [(18, 0)] ++ [(19, 0)] ++ [(20, 0)] ++ [(4, 0)] ++ [(21, 0)] ++ [(22, 0)] ++ [(23, 0)] ++ [(5, 0)]) 8
theorem LCl_cid {f o : Nat} (h : (f, o) ∈ LCl) : cid f o = true := by
  unfold LCl at h
  rcases LJ_or h with h | ⟨h1, h2⟩
  · exact (by decide : ∀ i ∈ ([(0, 0)] ++ [(1, 0)] ++ [(7, 0)] ++ [(8, 0)] ++ [(9, 0)] ++ [(10, 0)] ++ [(11, 0)] ++ [(12, 0)] ++ [(2, 0)] ++ [(13, 0)] ++ [(14, 0)] ++ [(15, 0)] ++ [(16, 0)] ++ [(3, 0)] ++ [(17, 0)] ++ [(18, 0)] ++ [(19, 0)] ++ [(20, 0)] ++ [(4, 0)] ++ [(21, 0)] ++ [(22, 0)] ++ [(23, 0)] ++ [(5, 0)]), cid i.1 i.2 = true) _ h
  · have h2 : o < 8 := h2
    have h1 : jid f := h1
    unfold cid
    rcases h1 with rfl | rfl | rfl | rfl | rfl | rfl <;> simp [h2]
theorem cid_LCl {f o : Nat} (h : cid f o = true) : (f, o) ∈ LCl := by
  unfold LCl
  by_cases hj : jid f ∧ o < 8
  · exact LJ_in hj.2 hj.1
  by_cases h5 : f = 5 ∧ o = 0
  · obtain ⟨rfl, rfl⟩ := h5
    exact LJ_L (by simp)
  · refine LJ_L ?_
    exact (by decide : ∀ i ∈ NW, i ∈ ([(0, 0)] ++ [(1, 0)] ++ [(7, 0)] ++ [(8, 0)] ++ [(9, 0)] ++ [(10, 0)] ++ [(11, 0)] ++ [(12, 0)] ++ [(2, 0)] ++ [(13, 0)] ++ [(14, 0)] ++ [(15, 0)] ++ [(16, 0)] ++ [(3, 0)] ++ [(17, 0)] ++ [(18, 0)] ++ [(19, 0)] ++ [(20, 0)] ++ [(4, 0)] ++ [(21, 0)] ++ [(22, 0)] ++ [(23, 0)] ++ [(5, 0)])) _ (cid_N h hj h5)
/-- all ids at the law's beginning -/
abbrev LBe : List (Nat × Nat) := LCl ++ [(30, 0)] ++ [(31, 0)] ++ [(36, 0)] ++ [(32, 0)] ++ [(37, 0)] ++ [(33, 0)] ++ [(34, 0)] ++ [(35, 0)] ++ [(90, 0)]
theorem LBe_or {f o : Nat} (h : (f, o) ∈ LBe) : (f, o) ∈ LCl ∨ (30 ≤ f ∧ f < 38 ∧ o = 0) ∨ (f = 90 ∧ o = 0) := by
  simp only [List.mem_append, List.mem_singleton, Prod.mk.injEq] at h
  rcases h with ((((((((h | h) | h) | h) | h) | h) | h) | h) | h) | h
  · exact Or.inl h
  all_goals omega
theorem cid_lt {f o : Nat} (h : cid f o = true) : f < 29 := by
  unfold cid at h
  split at h
  · omega
  · split at h
    · omega
    · split at h
      · omega
      · exact absurd h (by decide)
theorem LCl_no {f o : Nat} (h : 29 ≤ f) : (f, o) ∉ LCl := fun z => by have := cid_lt (LCl_cid z); omega
theorem LBe_no {f o : Nat} (h : 29 ≤ f) (h2 : ¬ (30 ≤ f ∧ f < 38)) (h3 : f ≠ 90) : (f, o) ∉ LBe := fun z => by
  rcases LBe_or z with y | y | y
  · exact LCl_no h y
  · exact h2 ⟨y.1, y.2.1⟩
  · exact h3 y.1
theorem wk.nil {D : va_G} {A : Nat → Prop} {ad : Nat → Nat → Nat} {ce : Nat → Nat → va_E} {H : Heap} : wk D A [] ad ce H H [] :=
  ⟨fun k q h => by simp [wl] at h, ⟨fun i j p1 q1 h _ _ => by simp [wl] at h, fun k q h => by simp [wl] at h⟩, va_S.rf⟩
theorem msz_0 (t : Nat) : msz M0 t = 0 := by
  unfold msz mszI M0
  repeat' split
  all_goals rfl
theorem MR_0 : MR M0 LBe (fun _ => 0) := ⟨fun f a b => by
  have : f = 30 ∨ f = 31 ∨ f = 32 ∨ f = 33 ∨ f = 34 ∨ f = 35 ∨ f = 36 ∨ f = 37 := by omega
  rcases this with rfl | rfl | rfl | rfl | rfl | rfl | rfl | rfl <;> simp, fun t _ h => by rw [msz_0] at h; exact absurd h (Nat.lt_irrefl _), fun t _ => by rw [msz_0]; exact ⟨Nat.le_refl _, by show 0 < 100; decide⟩, fun k h => by rw [msz_0] at h; exact absurd h (Nat.not_lt_zero _), fun k h => by rw [msz_0] at h; exact absurd h (Nat.not_lt_zero _), fun k h => by rw [msz_0] at h; exact absurd h (Nat.not_lt_zero _), fun k h => by rw [msz_0] at h; exact absurd h (Nat.not_lt_zero _), fun f k _ _ h => by rw [msz_0] at h; exact absurd h (Nat.not_lt_zero _)⟩
theorem MF_0 : MF M0 LBe (fun _ => 0) := ⟨fun k _ => LBe_no (by decide) (by omega) (by decide), fun k _ => LBe_no (by decide) (by omega) (by decide), fun k _ => LBe_no (by decide) (by omega) (by decide), fun k _ => LBe_no (by decide) (by omega) (by decide), fun f k a b _ => LBe_no (by omega) (by omega) (by omega), fun t ht => ⟨fun _ => LBe_no (by omega) (by omega) (by omega), fun h => absurd rfl h, Or.inl rfl⟩⟩
theorem TL_0 : TL 70 LBe := fun i hi => by
  obtain ⟨f, o⟩ := i
  rcases LBe_or hi with y | y | y
  · exact Or.inl (by have := cid_lt (LCl_cid y); show f < 60; omega)
  · exact Or.inl (by show f < 60; omega)
  · exact Or.inr (by show 70 < f; omega)
/-- the first world -/
theorem world_0 {D : va_G} {A : Nat → Prop} {cI cG cJ cO : ClassId} {K0 : Nat → Nat} {ce : Nat → Nat → va_E} {H0 H : Heap} {locs : List Loc} {u2 u3 u4 : Nat → Nat → Nat} {q : Nat} {x0 x1 : va_E} (h3 : Ex LCl u2 u3) (h4 : Ex (LCl ++ [(30, 0)]) u3 u4)
    (hw : wk D A LBe (upa u4 90 0 q) (up2 (mX cI cO K0 (fun _ => 0) M0 u4 (up2 (cA cI cJ u2 (up2 ce 0 0 x0)) 30 0 x1) [(30, 0), (31, 0), (36, 0), (32, 0), (37, 0), (33, 0), (34, 0), (35, 0)]) 90 0 (.inl (cG, 1, .inr (.inl (fun _ => 0))))) H0 H locs) : wk D A LBe (upa u4 90 0 q) (LWc cI cG cJ cO K0 (upa u4 90 0 q) (fun _ => 0) ce (fun _ => 0) M0 S0) H0 H locs := by
  refine hw.congr (fun f o h => ⟨rfl, ?_⟩)
  have hu : ∀ f o, f ≠ 90 → upa u4 90 0 q f o = u4 f o := fun f o z => upa_ne (i := (f, o)) (fun y => z (congrArg Prod.fst y))
  have hE : ∀ f o, cid f o = true → upa u4 90 0 q f o = u2 f o := fun f o c => by
    have hf := cid_lt c
    rw [hu f o (by omega)]
    exact (h4 f o (List.mem_append_left _ (cid_LCl c))).trans (h3 f o (cid_LCl c))
  unfold LWc
  rcases LBe_or h with y | ⟨y1, y2, rfl⟩ | ⟨rfl, rfl⟩
  · have c := LCl_cid y
    have hf := cid_lt c
    have hn : (f, o) ∉ [(30, 0), (31, 0), (36, 0), (32, 0), (37, 0), (33, 0), (34, 0), (35, 0)] := fun z => by
      simp only [List.mem_cons, List.not_mem_nil, or_false, Prod.mk.injEq] at z
      omega
    rw [up2_o (by omega)]
    unfold mX
    rw [if_neg hn, up2_o (by omega)]
    unfold cA cK
    rw [if_pos c, if_pos (by omega)]
    exact ccell_ex hE c
  · have hn : (f, 0) ∈ [(30, 0), (31, 0), (36, 0), (32, 0), (37, 0), (33, 0), (34, 0), (35, 0)] := by
      have : f = 30 ∨ f = 31 ∨ f = 32 ∨ f = 33 ∨ f = 34 ∨ f = 35 ∨ f = 36 ∨ f = 37 := by omega
      rcases this with rfl | rfl | rfl | rfl | rfl | rfl | rfl | rfl <;> simp
    rw [up2_o (by omega), cK_ou (by omega), mK_in (by omega) (by omega)]
    unfold mX
    rw [if_pos hn]
    refine mc_congr (by omega) (by omega) (fun e => ⟨rfl, rfl, fun g a b => hu g 0 (by omega)⟩) (fun t ht e => ⟨rfl, rfl, rfl⟩) (fun e => ⟨rfl, rfl⟩) (fun t ht e => ⟨rfl, rfl, fun k hk => by rw [msz_0] at hk; exact absurd hk (Nat.not_lt_zero _)⟩) (fun e r a b => rfl) (fun e r a => rfl) (fun e r a b => rfl) (fun e => absurd e (by omega)) (fun a b => rfl) (fun e => rfl)
  · rw [up2_eq, cK_ou (by decide), mK_ou (Or.inr (by decide)), up2_eq]

set_option maxHeartbeats 2000000 in
set_option maxRecDepth 100000 in
theorem law_start {p : Program} {l : Launch} {e : Env} {s : State} {m : MethodId} {below : List Frame} {meth : Method} {c : Code} {D : va_G} {cI cG cJ cO : ClassId} {K0 : Nat → Nat} {A : Nat → Prop} {ce : Nat → Nat → va_E} {b N : Nat} {xs : Nat → Int32} {RS : Nat → (Nat → Nat → Nat → Int32) → (Nat → Nat → Nat → Int32) → Prop} (h_step : st_step RS) (h_role : st_role RS) (h_right : st_right RS) (h_stock : st_stock RS) (h_order : st_order RS) (h_late : st_late RS) (h_session : st_session RS) (h_ofSession : st_ofSession RS) (h_ofItem : st_ofItem RS) (h_join : st_join RS) (h_leave : st_leave RS) (h_day : st_day RS) (h_ofStep : st_ofStep RS) (h_ofJoiner : st_ofJoiner RS) (h_many : st_many RS) (h_meanDays : st_meanDays RS) (h_rightOn : st_rightOn RS) (h_shiftBy : st_shiftBy RS) (h_next : st_next RS) (h_waitFor : st_waitFor RS) (h_digest : st_digest RS) (h_none : st_none RS) (hRI : ∀ r S M, RS r S M → CI S ∧ CI M) (hx : p.tables.exec = Jvm.exec) (hb : c.code = cL_law) (hr : meth.sig.returnType = ret) (hlocks : meth.locks = false) (hml : c.maxLocals = 9) (hown : s.vm.findClass RL = some m.cls) (hts : ∀ w ∈ BIG, w.before #[Value.ref b] s = true) (hO : ∀ d, OW A K0 (s.setDrawn d)) (hK : ∀ d, va_K D vwCl (ktys cI cG cJ cO) (s.setDrawn d)) (hA : ∀ q, s.heap.size ≤ q → A q) (hA2 : ∀ q, A q → s.heap.size ≤ q) (hst : l.stackTraces = false) (hX : va_X b N xs s s.heap) (hbl : b < s.heap.size) (hbA : ¬ A b) (hN : N ≤ 2560) (hRS : RS 0 S0 M0) : W p l e room_1 s m #[Value.ref b] below meth c s.heap [] 0 0 (lw_Z below #[Value.ref b] s) (entryFrame m ([Value.ref b] : List Value).toArray 9) := by
  have hd0 := Drawn.sameBut.refl s.drawn lw_cs
  refine W.base ?_
  have hl := lv_entry ([.ref b]) (n := 9) (Nat.le_of_ble_eq_true rfl)
  rw [lg_entry_eq]
  generalize (lg_sl ([.ref b]) ++ List.replicate (9 - (lg_sl ([.ref b])).length) Slot.unset).toArray = ls at hl ⊢
  have hl : lv_has ls 9 [(0, .ref b)] := hl
  have hts : ∀ w ∈ BIG, w.before #[Value.ref b] (s.setDrawn s.drawn) = true := dr_words hts _
  have hK0 := hK s.drawn
  have hO0 := hO s.drawn
  have hw := wk.nil (D := D) (A := A) (ad := fun _ _ => 0) (ce := ce) (H := (s.setDrawn s.drawn).heap)
  refine k_new2 (s := s.setDrawn s.drawn) (C := RX5) (T := TX5) (N := 7) (ci := 8) (fs := [.null, .null, .null, .null, .null, .int 0, .int 0]) hx hb hts inB_X5 tyX5 tyX5_ok hown (hts _ w_cl_RL_8) (hts _ w_is_X5) (hts _ w_in_X5) hK0 hw hA rfl (fun j hj => match j, hj with | 0, _ => rfl | 1, _ => rfl | 2, _ => rfl | 3, _ => rfl | 4, _ => rfl | 5, _ => rfl | 6, _ => rfl | n + 7, h => absurd h (by omega)) (Nat.le_of_ble_eq_true rfl) (Nat.le_of_ble_eq_true rfl) 0 0 (by simp) dL_law_0 (fun u1 a0 H hE_u1 ha0 hw => ?_)
  refine lv_dup hx hb dL_law_3 rfl ?_
  refine k_cvx hw (k_rI (As := []) (rest := [.ref a0]) ⟨hx, hb, hml, hown, hts⟩ hK0 hO0 hw (ct_X5_init (List.mem_append_right _ (List.mem_singleton_self _)) ha0 up2_eq (fun f o h _ => by simp at h; exact h.1) _ (wk.hA hw hA)) (cwI 0 hts (gB_0 w_co_X5_init) rfl rfl rfl (hts _ w_in_X5) (hts _ w_ml_L_77) (hts _ w_im_X5_init) rfl (by decide +kernel) ⟨by decide, by decide⟩) rfl hl.1 rfl (Nat.le_of_ble_eq_true rfl) dL_law_4 ⟨Nat.le_of_ble_eq_true rfl, Nat.le_of_ble_eq_true rfl⟩) (fun u2 H locs hE_u2 hw => ?_)
  have ha0 : u2 0 0 = a0 := (hE_u2 0 0 (by simp)).trans ha0
  have hw : wk D A LCl u2 (cA cI cJ u2 (up2 ce 0 0 (.inr (8, [.null, .null, .null, .null, .null, .int 0, .int 0])))) s.heap H locs := hw
  refine lv_astore_n (lv' := [(1, .ref a0), (0, .ref b)]) hx hb dL_law_7 rfl hl (by decide) rfl (fun ls hl => ?_)
  refine k_new2 (s := s.setDrawn s.drawn) (C := RX10) (T := TX10) (N := 9) (ci := 13) (fs := [.int 0, .null, .null, .null, .null, .null, .null, .null, .int 0]) hx hb hts inB_X10 tyX10 tyX10_ok hown (hts _ w_cl_RL_78) (hts _ w_is_X10) (hts _ w_in_X10) hK0 hw hA rfl (fun j hj => match j, hj with | 0, _ => rfl | 1, _ => rfl | 2, _ => rfl | 3, _ => rfl | 4, _ => rfl | 5, _ => rfl | 6, _ => rfl | 7, _ => rfl | 8, _ => rfl | n + 9, h => absurd h (by omega)) (Nat.le_of_ble_eq_true rfl) (Nat.le_of_ble_eq_true rfl) 30 0 (LCl_no (by decide)) dL_law_8 (fun u3 a30 H hE_u3 ha30 hw => ?_)
  have ha0 : u3 0 0 = a0 := (hE_u3 0 0 (cid_LCl rfl)).trans ha0
  refine lv_dup hx hb dL_law_11 rfl ?_
  refine k_cvx hw (k_rI (As := []) (rest := [.ref a30]) ⟨hx, hb, hml, hown, hts⟩ hK0 hO0 hw (ct_X10_init (List.mem_append_right _ (List.mem_singleton_self _)) ha30 up2_eq (nmemf (LCl_no (by decide)) (by decide)) (nmemf (LCl_no (by decide)) (by decide)) (nmemf (LCl_no (by decide)) (by decide)) (nmemf (LCl_no (by decide)) (by decide)) (nmemf (LCl_no (by decide)) (by decide)) (nmemf (LCl_no (by decide)) (by decide)) (nmemf (LCl_no (by decide)) (by decide)) _ (wk.hA hw hA)) (cwI 0 hts (gB_0 w_co_X10_init) rfl rfl rfl (hts _ w_in_X10) (hts _ w_ml_L_80) (hts _ w_im_X10_init) rfl (by decide +kernel) ⟨by decide, by decide⟩) rfl hl.1 rfl (Nat.le_of_ble_eq_true rfl) dL_law_12 ⟨Nat.le_of_ble_eq_true rfl, Nat.le_of_ble_eq_true rfl⟩) (fun u4 H locs hE_u4 hw => ?_)
  have ha0 : u4 0 0 = a0 := (hE_u4 0 0 (List.mem_append_left _ (cid_LCl rfl))).trans ha0
  have ha30 : u4 30 0 = a30 := (hE_u4 30 0 (List.mem_append_right _ (List.mem_singleton_self _))).trans ha30
  refine lv_astore_n (lv' := [(2, .ref a30), (1, .ref a0), (0, .ref b)]) hx hb dL_law_15 rfl hl (by decide) rfl (fun ls hl => ?_)
  refine lv_iconst (v := 1) hx hb dL_law_16 (by decide) ?_
  refine k_newl (s := s.setDrawn s.drawn) hx hb (hts _ w_ac_long) hK0 hw hA (n := 1) (N' := 1) (by decide) (by decide) (Nat.le_of_ble_eq_true rfl) (Nat.le_of_ble_eq_true rfl) (Nat.le_of_ble_eq_true rfl) 90 0 (by intro z; simp only [List.mem_append, List.mem_singleton, Prod.mk.injEq] at z; rcases z with ((((((((z | z) | z) | z) | z) | z) | z) | z) | z) <;> first | exact LCl_no (by decide) z | omega) dL_law_17 (fun q H hw => ?_)
  refine lv_astore_n (lv' := [(3, .ref (upa u4 90 0 q 90 0)), (2, .ref a30), (1, .ref a0), (0, .ref b)]) hx hb dL_law_19 rfl hl (by decide) rfl (fun ls hl => ?_)
  refine lv_iconst (v := 0) hx hb dL_law_20 (by decide) ?_
  refine lv_istore (lv' := [(4, .int (nI (5 * 0))), (3, .ref (upa u4 90 0 q 90 0)), (2, .ref a30), (1, .ref a0), (0, .ref b)]) hx hb dL_law_21 hl (by decide) rfl (fun ls hl => ?_)
  have e0 : upa u4 90 0 q 0 0 = a0 := ha0
  have e30 : upa u4 90 0 q 30 0 = a30 := ha30
  rw [← e0, ← e30] at hl
  have hw := world_0 (x0 := _) (x1 := _) hE_u3 hE_u4 hw
  refine W.widen (k := 100 + 602 * 0) (n := 2000 + 2712 * 0) (Nat.le_of_ble_eq_true rfl) (Nat.le_of_ble_eq_true rfl) ?_
  exact law_loop h_step h_role h_right h_stock h_order h_late h_session h_ofSession h_ofItem h_join h_leave h_day h_ofStep h_ofJoiner h_many h_meanDays h_rightOn h_shiftBy h_next h_waitFor h_digest h_none hRI hx hb hr hlocks hml hown (fun w h => hts w h) hO hK hA hA2 hst hX hbl hbA hN (N / 5) 0 S0 M0 LBe _ _ _ H _ ls s.drawn (Nat.zero_add _) hd0 hRS (fun f o h => by have := cid_LCl h; simp [this]) (fun f o h hf => by rcases LBe_or h with y | y | y; exact LCl_cid y; omega; omega) MR_0 MF_0 TL_0 (LBe_no (by decide) (by decide) (by decide)) (List.mem_append_right _ (List.mem_singleton_self _)) hw hl
