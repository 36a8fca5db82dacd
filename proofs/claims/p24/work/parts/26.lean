abbrev bw_X5_isAhead : List Cond := .code yX5_isAhead cX5_isAhead 2 (some .boolean) :: BIG
abbrev rm_X5_isAhead : Room := { frames := 0, cells := 0, slots := 0, locals := 0 }
noncomputable def sp_X5_isAhead (S : (Nat → Nat → Nat → Int32)) (p1 : Int32) : Int32 := if p1 ≤ S 0 0 1 then (0) else (if 199 < p1 then (0) else (1))
set_option maxHeartbeats 1000000 in
set_option maxRecDepth 100000 in
theorem ct_X5_isAhead {l : Launch} {D : va_G} {cI cG cJ cO : ClassId} {K0 : Nat → Nat} {A : Nat → Prop} {L : List (Nat × Nat)} {ad : Nat → Nat → Nat} {ce : Nat → Nat → va_E} (hL : ∀ f o, cid f o = true → (f, o) ∈ L) (S : (Nat → Nat → Nat → Int32)) (hI : CI S) (p1 : Int32) (sz : Nat) (hA : ∀ q, sz ≤ q → A q) : Met l yX5_isAhead bw_X5_isAhead rm_X5_isAhead (kP D (ktys cI cG cJ cO) K0 A L ad (cK cI cJ ad ce S) sz [.ref (ad 0 0), .int p1]) (kQi D A (sp_X5_isAhead S p1) L ad (cK cI cJ ad ce S)) 0 0 A := by
  refine Met.ofW (cc := cX5_isAhead) (maxL := 2) (ret := (some .boolean)) (by decide) rfl ?_
  intro p e s m args below meth c s₁ B hml hv
  obtain ⟨hav, hsz, hP, hD, hK, hO⟩ := hv
  have hx := B.exec
  have hb := B.bytes
  have hr := B.returns
  have hts : ∀ w ∈ BIG, w.before args s = true := fun w h => atoms_spec (ws := bw_X5_isAhead) B.pre w (List.mem_cons_of_mem _ h)
  have hown : s.vm.findClass RX5 = some m.cls := findClass_of_methodNamed B.named
  have hlocks := B.notSynchronized
  subst hsz
  have hw := wk.start hP hD
  refine k_start (by rfl) hav (Nat.le_of_ble_eq_true rfl) (fun ls hl => ?_)
  have hl : lv_has ls 2 [(0, .ref (ad 0 0)), (1, .int p1)] := hl
  have hE : sp_X5_isAhead S p1 = sp_X5_isAhead S p1 := rfl
  refine lv_iload_n hx hb dX5_isAhead_0 rfl (lv_at hl 1 rfl) ?_
  refine lv_aload_n hx hb dX5_isAhead_1 rfl (lv_at hl 0 rfl) ?_
  refine k_get (C := RX5) (T := TX5) (N := 7) (v := .int (S 0 0 1)) hx hb hts inB_X5 hown hK hw (hL 0 0 rfl) cke_0 rfl 6 (by decide) (hts _ w_f_X5_160) (fun _ h9 => h9) rfl dX5_isAhead_2 ?_
  refine lv_icmp_le (tgt := 19) hx hb dX5_isAhead_5 (by decide) (fun c_1 => ?_) (fun c_1 => ?_)
  · have hE := hE.trans (if_pos c_1)
    refine lv_iconst (v := 0) hx hb dX5_isAhead_19 (by decide) ?_
    exact k_iret hx hb hr hlocks rfl hw hE rfl dX5_isAhead_20
  · have hE := hE.trans (if_neg c_1)
    refine lv_iload_n hx hb dX5_isAhead_8 rfl (lv_at hl 1 rfl) ?_
    refine lv_sipush (v := 199) hx hb dX5_isAhead_9 (by decide) ?_
    refine lv_icmp_gt (tgt := 19) hx hb dX5_isAhead_12 (by decide) (fun c_2 => ?_) (fun c_2 => ?_)
    · have hE := hE.trans (if_pos c_2)
      refine lv_iconst (v := 0) hx hb dX5_isAhead_19 (by decide) ?_
      exact k_iret hx hb hr hlocks rfl hw hE rfl dX5_isAhead_20
    · have hE := hE.trans (if_neg c_2)
      refine lv_iconst (v := 1) hx hb dX5_isAhead_15 (by decide) ?_
      refine lv_goto (tgt := 20) hx hb dX5_isAhead_16 (by decide) ?_
      exact k_iret hx hb hr hlocks rfl hw hE rfl dX5_isAhead_20

theorem bz_X5_isAhead (S : (Nat → Nat → Nat → Int32)) (p1 : Int32) : sp_X5_isAhead S p1 = 0 ∨ sp_X5_isAhead S p1 = 1 := by
  unfold sp_X5_isAhead
  repeat' split
  all_goals first | exact Or.inl rfl | exact Or.inr rfl | exact bz_X5_has _ _ | exact bz_X5_isWithin _ _ _ | exact bz_X5_isOfKind _ _ | exact bz_X1_isIn _ _ _ _ | exact bz_X3_hasPiece _ _ | exact bz_X2_knows _ _ | exact bz_X2_needsAreDone _ _ _ | skip

abbrev bw_X5_joinerAt : List Cond := .code yX5_joinerAt cX5_joinerAt 3 (some (.object "OnboardingWorks$Joiner")) :: BIG
abbrev rm_X5_joinerAt : Room := { frames := 6, cells := 1, slots := 6, locals := 90 }
noncomputable def sp_X5_joinerAt (S : (Nat → Nat → Nat → Int32)) (p1 : Int32) : Nat × Nat := if p1 < 0 then ((1, 0)) else (if S 0 0 0 ≤ p1 then ((1, 0)) else (if p1 < 8 then ((0, p1.toNatClampNeg)) else ((1, 0))))
set_option maxHeartbeats 1000000 in
set_option maxRecDepth 100000 in
theorem ct_X5_joinerAt {l : Launch} {D : va_G} {cI cG cJ cO : ClassId} {K0 : Nat → Nat} {A : Nat → Prop} {L : List (Nat × Nat)} {ad : Nat → Nat → Nat} {ce : Nat → Nat → va_E} (hL : ∀ f o, cid f o = true → (f, o) ∈ L) (S : (Nat → Nat → Nat → Int32)) (hI : CI S) (p1 : Int32) (hst : l.stackTraces = false) (sz : Nat) (hA : ∀ q, sz ≤ q → A q) : vx_Met l yX5_joinerAt bw_X5_joinerAt rm_X5_joinerAt (kP D (ktys cI cG cJ cO) K0 A L ad (cK cI cJ ad ce S) sz [.ref (ad 0 0), .int p1]) (va_Qq (fun (r : Option Nat) (_ : Unit) => r = some (ad 6 ((sp_X5_joinerAt S p1).2)) ∧ (sp_X5_joinerAt S p1).1 = 0) (fun _ t => WE D A L ad (cK cI cJ ad ce S) t) A) (vx_X (fun (_ : Unit) => True) (fun E _ t => kE E (sp_X5_joinerAt S p1).1 ∧ WE D A L ad (cK cI cJ ad ce S) t) A) 1 6 A := by
  refine vx_ofW (cc := cX5_joinerAt) (maxL := 3) (ret := (some (.object "OnboardingWorks$Joiner"))) (by decide) rfl ?_
  intro p e s m args below meth c s₁ B hml hexn hv
  obtain ⟨hav, hsz, hP, hD, hK, hO⟩ := hv
  have hx := B.exec
  have hb := B.bytes
  have hr := B.returns
  have hts : ∀ w ∈ BIG, w.before args s = true := fun w h => atoms_spec (ws := bw_X5_joinerAt) B.pre w (List.mem_cons_of_mem _ h)
  have hown : s.vm.findClass RX5 = some m.cls := findClass_of_methodNamed B.named
  have hlocks := B.notSynchronized
  subst hsz
  have hw := wk.start hP hD
  refine k_start (by rfl) hav (Nat.le_of_ble_eq_true rfl) (fun ls hl => ?_)
  have hl : lv_has ls 3 [(0, .ref (ad 0 0)), (1, .int p1)] := hl
  have hE : sp_X5_joinerAt S p1 = sp_X5_joinerAt S p1 := rfl
  refine lv_iload_n hx hb dX5_joinerAt_0 rfl (lv_at hl 1 rfl) ?_
  refine lv_if_lt (tgt := 18) hx hb dX5_joinerAt_1 (by decide) (fun c_1 => ?_) (fun c_1 => ?_)
  · have hE := hE.trans (if_pos c_1)
    obtain ⟨sa, hsa⟩ := hO.2.1 (RX5, 312, "no such JOINER") (by decide +kernel)
    exact k_throwW hx hb hst hown (by decide +kernel) (by decide +kernel) (hts _ w_cl_X5_74) (hts _ w_in_java_lang_IndexOutOfBoundsException) hsa (xh_1 hts hO.2.2.1) xg_1 hO hw hl.1 hml dX5_joinerAt_18 dX5_joinerAt_21 dX5_joinerAt_22 dX5_joinerAt_25 dX5_joinerAt_28 hexn (Nat.le_of_ble_eq_true rfl) (Nat.le_of_ble_eq_true rfl) (Nat.le_of_ble_eq_true rfl) (Nat.le_of_ble_eq_true rfl) hlocks (by rw [hE]; exact kE_1) (Nat.le_of_ble_eq_true rfl) (Nat.le_of_ble_eq_true rfl)
  · have hE := hE.trans (if_neg c_1)
    refine lv_iload_n hx hb dX5_joinerAt_4 rfl (lv_at hl 1 rfl) ?_
    refine lv_aload_n hx hb dX5_joinerAt_5 rfl (lv_at hl 0 rfl) ?_
    refine k_get (C := RX5) (T := TX5) (N := 7) (v := .int (S 0 0 0)) hx hb hts inB_X5 hown hK hw (hL 0 0 rfl) cke_0 rfl 5 (by decide) (hts _ w_f_X5_174) (fun _ h9 => h9) rfl dX5_joinerAt_6 ?_
    refine lv_icmp_ge (tgt := 18) hx hb dX5_joinerAt_9 (by decide) (fun c_2 => ?_) (fun c_2 => ?_)
    · have hE := hE.trans (if_pos c_2)
      obtain ⟨sa, hsa⟩ := hO.2.1 (RX5, 312, "no such JOINER") (by decide +kernel)
      exact k_throwW hx hb hst hown (by decide +kernel) (by decide +kernel) (hts _ w_cl_X5_74) (hts _ w_in_java_lang_IndexOutOfBoundsException) hsa (xh_1 hts hO.2.2.1) xg_1 hO hw hl.1 hml dX5_joinerAt_18 dX5_joinerAt_21 dX5_joinerAt_22 dX5_joinerAt_25 dX5_joinerAt_28 hexn (Nat.le_of_ble_eq_true rfl) (Nat.le_of_ble_eq_true rfl) (Nat.le_of_ble_eq_true rfl) (Nat.le_of_ble_eq_true rfl) hlocks (by rw [hE]; exact kE_1) (Nat.le_of_ble_eq_true rfl) (Nat.le_of_ble_eq_true rfl)
    · have hE := hE.trans (if_neg c_2)
      refine lv_iload_n hx hb dX5_joinerAt_12 rfl (lv_at hl 1 rfl) ?_
      refine lv_bipush (v := 8) hx hb dX5_joinerAt_13 (by decide) ?_
      refine lv_icmp_lt (tgt := 29) hx hb dX5_joinerAt_15 (by decide) (fun c_3 => ?_) (fun c_3 => ?_)
      · have hE := hE.trans (if_pos c_3)
        refine lv_aload_n hx hb dX5_joinerAt_29 rfl (lv_at hl 0 rfl) ?_
        refine k_get (C := RX5) (T := TX5) (N := 7) (v := .ref (ad 5 0)) hx hb hts inB_X5 hown hK hw (hL 0 0 rfl) cke_0 rfl 4 (by decide) (hts _ w_f_X5_41) (fun _ h9 => h9) rfl dX5_joinerAt_30 ?_
        refine lv_iload_n hx hb dX5_joinerAt_33 rfl (lv_at hl 1 rfl) ?_
        refine k_aldq hx hb hK hw (hL 5 0 rfl) 2 cke_5 rfl (k_in c_1 c_2 (CI.le5 hI (by decide))) (a := ad 6 p1.toNatClampNeg) (if_pos (k_lt (k_in c_1 c_2 (CI.le5 hI (by decide))))) dX5_joinerAt_34 ?_
        refine lv_astore_n (lv' := [(2, .ref (ad 6 p1.toNatClampNeg)), (0, .ref (ad 0 0)), (1, .int p1)]) hx hb dX5_joinerAt_35 rfl hl (by decide) rfl (fun ls hl => ?_)
        refine lv_aload_n hx hb dX5_joinerAt_36 rfl (lv_at hl 0 rfl) ?_
        refine lv_ifnonnull (tgt := 51) hx hb dX5_joinerAt_37 (by decide) ?_
        refine lv_aload_n hx hb dX5_joinerAt_51 rfl (lv_at hl 0 rfl) ?_
        exact x_qret hx hb hr (Or.inl ⟨_, rfl⟩) hlocks hw (congrArg (fun z => ad 6 z.2) hE) (congrArg (fun z => z.1) hE) rfl (Nat.le_of_ble_eq_true rfl) (Nat.le_of_ble_eq_true rfl) dX5_joinerAt_52
      · have hE := hE.trans (if_neg c_3)
        obtain ⟨sa, hsa⟩ := hO.2.1 (RX5, 312, "no such JOINER") (by decide +kernel)
        exact k_throwW hx hb hst hown (by decide +kernel) (by decide +kernel) (hts _ w_cl_X5_74) (hts _ w_in_java_lang_IndexOutOfBoundsException) hsa (xh_1 hts hO.2.2.1) xg_1 hO hw hl.1 hml dX5_joinerAt_18 dX5_joinerAt_21 dX5_joinerAt_22 dX5_joinerAt_25 dX5_joinerAt_28 hexn (Nat.le_of_ble_eq_true rfl) (Nat.le_of_ble_eq_true rfl) (Nat.le_of_ble_eq_true rfl) (Nat.le_of_ble_eq_true rfl) hlocks (by rw [hE]; exact kE_1) (Nat.le_of_ble_eq_true rfl) (Nat.le_of_ble_eq_true rfl)

abbrev rm_X5_joinerAt_n : Room := { frames := 0, cells := 0, slots := 0, locals := 0 }
noncomputable def sp_X5_joinerAt_n (S : (Nat → Nat → Nat → Int32)) (q : Nat) : Nat := q
set_option maxHeartbeats 1000000 in
set_option maxRecDepth 100000 in
theorem ct_X5_joinerAt_n {l : Launch} {D : va_G} {cI cG cJ cO : ClassId} {K0 : Nat → Nat} {A : Nat → Prop} {L : List (Nat × Nat)} {ad : Nat → Nat → Nat} {ce : Nat → Nat → va_E} (hL : ∀ f o, cid f o = true → (f, o) ∈ L) (S : (Nat → Nat → Nat → Int32)) (hI : CI S) (q : Nat) (hq : q < (S 0 0 0).toNatClampNeg) (sz : Nat) (hA : ∀ q, sz ≤ q → A q) : Met l yX5_joinerAt bw_X5_joinerAt rm_X5_joinerAt_n (kP D (ktys cI cG cJ cO) K0 A L ad (cK cI cJ ad ce S) sz [.ref (ad 0 0), .int (nI q)]) (kQr D A (ad 6 (sp_X5_joinerAt_n S q)) L ad (cK cI cJ ad ce S)) 0 0 A := by
  refine Met.ofW (cc := cX5_joinerAt) (maxL := 3) (ret := (some (.object "OnboardingWorks$Joiner"))) (by decide) rfl ?_
  intro p e s m args below meth c s₁ B hml hv
  obtain ⟨hav, hsz, hP, hD, hK, hO⟩ := hv
  have hx := B.exec
  have hb := B.bytes
  have hr := B.returns
  have hts : ∀ w ∈ BIG, w.before args s = true := fun w h => atoms_spec (ws := bw_X5_joinerAt) B.pre w (List.mem_cons_of_mem _ h)
  have hown : s.vm.findClass RX5 = some m.cls := findClass_of_methodNamed B.named
  have hlocks := B.notSynchronized
  subst hsz
  have hw := wk.start hP hD
  refine k_start (by rfl) hav (Nat.le_of_ble_eq_true rfl) (fun ls hl => ?_)
  have hl : lv_has ls 3 [(0, .ref (ad 0 0)), (1, .int (nI q))] := hl
  have hE : sp_X5_joinerAt_n S q = q := by unfold sp_X5_joinerAt_n; rfl
  refine lv_iload_n hx hb dX5_joinerAt_0 rfl (lv_at hl 1 rfl) ?_
  refine lv_if_lt (tgt := 18) hx hb dX5_joinerAt_1 (by decide) (fun h => absurd h (nI_pos (Nat.lt_of_lt_of_le hq (Nat.le_of_lt (cn_lt _))))) (fun _ => ?_)
  refine lv_iload_n hx hb dX5_joinerAt_4 rfl (lv_at hl 1 rfl) ?_
  refine lv_aload_n hx hb dX5_joinerAt_5 rfl (lv_at hl 0 rfl) ?_
  refine k_get (C := RX5) (T := TX5) (N := 7) (v := .int (S 0 0 0)) hx hb hts inB_X5 hown hK hw (hL 0 0 rfl) cke_0 rfl 5 (by decide) (hts _ w_f_X5_174) (fun _ h9 => h9) rfl dX5_joinerAt_6 ?_
  refine lv_icmp_ge (tgt := 18) hx hb dX5_joinerAt_9 (by decide) (fun h => absurd h (by rw [SF.b5 (SF.rf S) hI]; exact nI_ge hq (cn_lt _))) (fun _ => ?_)
  refine lv_iload_n hx hb dX5_joinerAt_12 rfl (lv_at hl 1 rfl) ?_
  refine lv_bipush (v := 8) hx hb dX5_joinerAt_13 (by decide) ?_
  refine lv_icmp_lt (tgt := 29) hx hb dX5_joinerAt_15 (by decide) (fun _ => ?_) (fun h => absurd (nI_lt (b := 8) (Nat.lt_of_lt_of_le hq (CI.n5 hI)) (by decide)) h)
  refine lv_aload_n hx hb dX5_joinerAt_29 rfl (lv_at hl 0 rfl) ?_
  refine k_get (C := RX5) (T := TX5) (N := 7) (v := .ref (ad 5 0)) hx hb hts inB_X5 hown hK hw (hL 0 0 rfl) cke_0 rfl 4 (by decide) (hts _ w_f_X5_41) (fun _ h9 => h9) rfl dX5_joinerAt_30 ?_
  refine lv_iload_n hx hb dX5_joinerAt_33 rfl (lv_at hl 1 rfl) ?_
  refine k_aldq hx hb hK hw (hL 5 0 rfl) 2 cke_5 rfl (vp_in_nI (Nat.lt_of_lt_of_le hq (CI.n5 hI)) (by decide)) (a := ad 6 q) (by rw [nI_clamp (Nat.lt_trans (Nat.lt_of_lt_of_le hq (CI.n5 hI)) (by decide))]; exact if_pos (Nat.lt_of_lt_of_le hq (CI.n5 hI))) dX5_joinerAt_34 ?_
  refine lv_astore_n (lv' := [(2, .ref (ad 6 q)), (0, .ref (ad 0 0)), (1, .int (nI q))]) hx hb dX5_joinerAt_35 rfl hl (by decide) rfl (fun ls hl => ?_)
  refine lv_aload_n hx hb dX5_joinerAt_36 rfl (lv_at hl 0 rfl) ?_
  refine lv_ifnonnull (tgt := 51) hx hb dX5_joinerAt_37 (by decide) ?_
  refine lv_aload_n hx hb dX5_joinerAt_51 rfl (lv_at hl 0 rfl) ?_
  exact k_rret hx hb hr (Or.inl ⟨_, rfl⟩) hlocks hw (congrArg (fun z => ad 6 z) hE) rfl dX5_joinerAt_52

theorem jn_ok {S : (Nat → Nat → Nat → Int32)} {p : Int32} (h : (sp_X5_joinerAt S p).1 = 0) : (sp_X5_joinerAt S p).2 < 8 := by
  unfold sp_X5_joinerAt at h ⊢
  by_cases c1 : p < 0
  · rw [if_pos c1] at h; exact absurd h (by decide)
  · rw [if_neg c1] at h
    by_cases c2 : S 0 0 0 ≤ p
    · rw [if_pos c2] at h; exact absurd h (by decide)
    · rw [if_neg c2] at h
      by_cases c3 : p < 8
      · rw [if_neg c1, if_neg c2, if_pos c3]; exact k_lt (k_in' c1 c3 (by decide))
      · rw [if_neg c3] at h; exact absurd h (by decide)
theorem CI.up5 {S : (Nat → Nat → Nat → Int32)} (h : CI S) (c : ¬ 8 ≤ S 0 0 0) : CI (up3 S 0 0 0 (S 0 0 0 + 1)) := ⟨h.1, h.2.1, h.2.2.1, h.2.2.2.1, inc_le h.2.2.2.2.1 rfl (by decide) c⟩
theorem CI.day {S : (Nat → Nat → Nat → Int32)} {v : Int32} (h : CI S) : CI (up3 S 0 0 1 v) := h
theorem cn_pos {x : Int32} (h : 0 ≤ x.toInt) : ¬ x < 0 := by
  rw [Int32.lt_iff_toInt_lt]
  have h0 : (0 : Int32).toInt = 0 := rfl
  omega
theorem cn_inc {x b : Int32} (h : 0 ≤ x.toInt) (hb : b.toInt < 1000) (c : ¬ b ≤ x) : ¬ x + 1 ≤ x := by
  rw [Int32.le_iff_toInt_le] at c ⊢
  have e : x + 1 = nI (x.toNatClampNeg + 1) := by
    conv => lhs; rw [cn_eq h]
    exact nI_1 _
  have h2 : x.toNatClampNeg = x.toInt.toNat := rfl
  rw [e, nI_toInt (by omega)]
  omega
theorem nle_lt {x b : Int32} (h : ¬ b ≤ x) : x < b := by
  rw [Int32.le_iff_toInt_le] at h
  rw [Int32.lt_iff_toInt_lt]
  omega
theorem wi_ok {q n : Nat} {b : Int32} (hb : b = nI n) (h : q ≤ n) (hn : n < 2 ^ 31) : ¬ sp_X5_isWithin (nI q) 0 b = 0 := by
  unfold sp_X5_isWithin
  subst hb
  rw [if_neg (show ¬ nI q < 0 from nI_nlt (a := q) (b := 0) (Nat.zero_le q) (by omega)), if_neg (nI_nlt h (by omega))]
  decide
theorem lp_le {i k N : Nat} (h : i + (k + 1) = N + 1) : i ≤ N := by omega

abbrev rm_X5_joinerAt_m : Room := { frames := 0, cells := 0, slots := 0, locals := 0 }
noncomputable def sp_X5_joinerAt_m (S : (Nat → Nat → Nat → Int32)) (p1 : Int32) : Nat := p1.toNatClampNeg
set_option maxHeartbeats 1000000 in
set_option maxRecDepth 100000 in
theorem ct_X5_joinerAt_m {l : Launch} {D : va_G} {cI cG cJ cO : ClassId} {K0 : Nat → Nat} {A : Nat → Prop} {L : List (Nat × Nat)} {ad : Nat → Nat → Nat} {ce : Nat → Nat → va_E} (hL : ∀ f o, cid f o = true → (f, o) ∈ L) (S : (Nat → Nat → Nat → Int32)) (hI : CI S) (p1 : Int32) (h0 : ¬ p1 < 0) (h1 : ¬ S 0 0 0 ≤ p1) (h2 : p1 < 8) (sz : Nat) (hA : ∀ q, sz ≤ q → A q) : Met l yX5_joinerAt bw_X5_joinerAt rm_X5_joinerAt_m (kP D (ktys cI cG cJ cO) K0 A L ad (cK cI cJ ad ce S) sz [.ref (ad 0 0), .int p1]) (kQr D A (ad 6 (sp_X5_joinerAt_m S p1)) L ad (cK cI cJ ad ce S)) 0 0 A := by
  refine Met.ofW (cc := cX5_joinerAt) (maxL := 3) (ret := (some (.object "OnboardingWorks$Joiner"))) (by decide) rfl ?_
  intro p e s m args below meth c s₁ B hml hv
  obtain ⟨hav, hsz, hP, hD, hK, hO⟩ := hv
  have hx := B.exec
  have hb := B.bytes
  have hr := B.returns
  have hts : ∀ w ∈ BIG, w.before args s = true := fun w h => atoms_spec (ws := bw_X5_joinerAt) B.pre w (List.mem_cons_of_mem _ h)
  have hown : s.vm.findClass RX5 = some m.cls := findClass_of_methodNamed B.named
  have hlocks := B.notSynchronized
  subst hsz
  have hw := wk.start hP hD
  refine k_start (by rfl) hav (Nat.le_of_ble_eq_true rfl) (fun ls hl => ?_)
  have hl : lv_has ls 3 [(0, .ref (ad 0 0)), (1, .int p1)] := hl
  have hE : sp_X5_joinerAt_m S p1 = p1.toNatClampNeg := by unfold sp_X5_joinerAt_m; rfl
  refine lv_iload_n hx hb dX5_joinerAt_0 rfl (lv_at hl 1 rfl) ?_
  refine lv_if_lt (tgt := 18) hx hb dX5_joinerAt_1 (by decide) (fun h => absurd h h0) (fun _ => ?_)
  refine lv_iload_n hx hb dX5_joinerAt_4 rfl (lv_at hl 1 rfl) ?_
  refine lv_aload_n hx hb dX5_joinerAt_5 rfl (lv_at hl 0 rfl) ?_
  refine k_get (C := RX5) (T := TX5) (N := 7) (v := .int (S 0 0 0)) hx hb hts inB_X5 hown hK hw (hL 0 0 rfl) cke_0 rfl 5 (by decide) (hts _ w_f_X5_174) (fun _ h9 => h9) rfl dX5_joinerAt_6 ?_
  refine lv_icmp_ge (tgt := 18) hx hb dX5_joinerAt_9 (by decide) (fun h => absurd h h1) (fun _ => ?_)
  refine lv_iload_n hx hb dX5_joinerAt_12 rfl (lv_at hl 1 rfl) ?_
  refine lv_bipush (v := 8) hx hb dX5_joinerAt_13 (by decide) ?_
  refine lv_icmp_lt (tgt := 29) hx hb dX5_joinerAt_15 (by decide) (fun _ => ?_) (fun h => absurd h2 h)
  refine lv_aload_n hx hb dX5_joinerAt_29 rfl (lv_at hl 0 rfl) ?_
  refine k_get (C := RX5) (T := TX5) (N := 7) (v := .ref (ad 5 0)) hx hb hts inB_X5 hown hK hw (hL 0 0 rfl) cke_0 rfl 4 (by decide) (hts _ w_f_X5_41) (fun _ h9 => h9) rfl dX5_joinerAt_30 ?_
  refine lv_iload_n hx hb dX5_joinerAt_33 rfl (lv_at hl 1 rfl) ?_
  refine k_aldq hx hb hK hw (hL 5 0 rfl) 2 cke_5 rfl (k_in h0 h1 (CI.le5 hI (by decide))) (a := ad 6 p1.toNatClampNeg) (if_pos (k_lt (k_in h0 h1 (CI.le5 hI (by decide))))) dX5_joinerAt_34 ?_
  refine lv_astore_n (lv' := [(2, .ref (ad 6 p1.toNatClampNeg)), (0, .ref (ad 0 0)), (1, .int p1)]) hx hb dX5_joinerAt_35 rfl hl (by decide) rfl (fun ls hl => ?_)
  refine lv_aload_n hx hb dX5_joinerAt_36 rfl (lv_at hl 0 rfl) ?_
  refine lv_ifnonnull (tgt := 51) hx hb dX5_joinerAt_37 (by decide) ?_
  refine lv_aload_n hx hb dX5_joinerAt_51 rfl (lv_at hl 0 rfl) ?_
  exact k_rret hx hb hr (Or.inl ⟨_, rfl⟩) hlocks hw (congrArg (fun z => ad 6 z) hE) rfl dX5_joinerAt_52
