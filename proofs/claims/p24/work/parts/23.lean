abbrev bw_X4_addSession : List Cond := .code yX4_addSession cX4_addSession 4 (some .int) :: BIG
abbrev rm_X4_addSession : Room := { frames := 0, cells := 0, slots := 0, locals := 0 }
noncomputable def rw_X4_addSession (S : (Nat → Nat → Nat → Int32)) (p1 : Int32) (p2 : Int32) (p3 : Int32) : Int32 × (Nat → Nat → Nat → Int32) := if S 3 0 0 < 20 then ((((up3 (up3 (up3 (up3 S 17 0 ((S 3 0 0).toNatClampNeg) p1) 18 0 ((S 3 0 0).toNatClampNeg) p2) 19 0 ((S 3 0 0).toNatClampNeg) p3) 3 0 0 ((S 3 0 0) + 1)) 3 0 0) - 1, (up3 (up3 (up3 (up3 S 17 0 ((S 3 0 0).toNatClampNeg) p1) 18 0 ((S 3 0 0).toNatClampNeg) p2) 19 0 ((S 3 0 0).toNatClampNeg) p3) 3 0 0 ((S 3 0 0) + 1)))) else (((-1), S))
/-- sealed: it unfolds by un_ alone -/
noncomputable def sp_X4_addSession : (Nat → Nat → Nat → Int32) → Int32 → Int32 → Int32 → (Int32 × (Nat → Nat → Nat → Int32)) := Classical.choose (⟨rw_X4_addSession, rfl⟩ : ∃ f, f = rw_X4_addSession)
theorem un_X4_addSession (S : (Nat → Nat → Nat → Int32)) (p1 : Int32) (p2 : Int32) (p3 : Int32) : sp_X4_addSession S p1 p2 p3 = rw_X4_addSession S p1 p2 p3 := (congrFun (congrFun (congrFun (congrFun (Classical.choose_spec (⟨rw_X4_addSession, rfl⟩ : ∃ f, f = rw_X4_addSession)) S) p1) p2) p3)
set_option maxHeartbeats 1000000 in
set_option maxRecDepth 100000 in
theorem ct_X4_addSession {l : Launch} {D : va_G} {cI cG cJ cO : ClassId} {K0 : Nat → Nat} {A : Nat → Prop} {L : List (Nat × Nat)} {ad : Nat → Nat → Nat} {ce : Nat → Nat → va_E} (hL : ∀ f o, cid f o = true → (f, o) ∈ L) (S : (Nat → Nat → Nat → Int32)) (hI : CI S) (p1 : Int32) (p2 : Int32) (p3 : Int32) (sz : Nat) (hA : ∀ q, sz ≤ q → A q) : Met l yX4_addSession bw_X4_addSession rm_X4_addSession (kP D (ktys cI cG cJ cO) K0 A L ad (cK cI cJ ad ce S) sz [.ref (ad 3 0), .int p1, .int p2, .int p3]) (kQi D A (sp_X4_addSession S p1 p2 p3).1 L ad (cK cI cJ ad ce (sp_X4_addSession S p1 p2 p3).2)) 0 0 A := by
  refine Met.ofW (cc := cX4_addSession) (maxL := 4) (ret := (some .int)) (by decide) rfl ?_
  intro p e s m args below meth c s₁ B hml hv
  obtain ⟨hav, hsz, hP, hD, hK, hO⟩ := hv
  have hx := B.exec
  have hb := B.bytes
  have hr := B.returns
  have hts : ∀ w ∈ BIG, w.before args s = true := fun w h => atoms_spec (ws := bw_X4_addSession) B.pre w (List.mem_cons_of_mem _ h)
  have hown : s.vm.findClass RX4 = some m.cls := findClass_of_methodNamed B.named
  have hlocks := B.notSynchronized
  subst hsz
  have hw := wk.start hP hD
  refine k_start (by rfl) hav (Nat.le_of_ble_eq_true rfl) (fun ls hl => ?_)
  have hl : lv_has ls 4 [(0, .ref (ad 3 0)), (1, .int p1), (2, .int p2), (3, .int p3)] := hl
  have hE : sp_X4_addSession S p1 p2 p3 = rw_X4_addSession S p1 p2 p3 := un_X4_addSession S p1 p2 p3
  refine lv_aload_n hx hb dX4_addSession_0 rfl (lv_at hl 0 rfl) ?_
  refine k_get (C := RX4) (T := TX4) (N := 5) (v := .int (S 3 0 0)) hx hb hts inB_X4 hown hK hw (hL 3 0 rfl) cke_3 rfl 4 (by decide) (hts _ w_f_X4_24) (fun _ h9 => h9) rfl dX4_addSession_1 ?_
  refine lv_bipush (v := 20) hx hb dX4_addSession_4 (by decide) ?_
  refine lv_icmp_lt (tgt := 11) hx hb dX4_addSession_6 (by decide) (fun c_1 => ?_) (fun c_1 => ?_)
  · have hE := hE.trans (if_pos c_1)
    refine lv_aload_n hx hb dX4_addSession_11 rfl (lv_at hl 0 rfl) ?_
    refine k_get (C := RX4) (T := TX4) (N := 5) (v := .ref (ad 17 0)) hx hb hts inB_X4 hown hK hw (hL 3 0 rfl) cke_3 rfl 0 (by decide) (hts _ w_f_X4_9) (fun _ h9 => h9) rfl dX4_addSession_12 ?_
    refine lv_aload_n hx hb dX4_addSession_15 rfl (lv_at hl 0 rfl) ?_
    refine k_get (C := RX4) (T := TX4) (N := 5) (v := .int (S 3 0 0)) hx hb hts inB_X4 hown hK hw (hL 3 0 rfl) cke_3 rfl 4 (by decide) (hts _ w_f_X4_24) (fun _ h9 => h9) rfl dX4_addSession_16 ?_
    refine lv_iload_n hx hb dX4_addSession_19 rfl (lv_at hl 1 rfl) ?_
    refine k_ast hx hb hK hw (hL 17 0 rfl) 0 cke_17 rfl (CI.in4 hI (lt_nle c_1)) (cK_up (i := ((S 3 0 0).toNatClampNeg)) (x := p1) (by decide) rfl) dX4_addSession_20 (fun H locs hw => ?_)
    refine lv_aload_n hx hb dX4_addSession_21 rfl (lv_at hl 0 rfl) ?_
    refine k_get (C := RX4) (T := TX4) (N := 5) (v := .ref (ad 18 0)) hx hb hts inB_X4 hown hK hw (hL 3 0 rfl) cke_3 rfl 1 (by decide) (hts _ w_f_X4_15) (fun _ h9 => h9) rfl dX4_addSession_22 ?_
    refine lv_aload_n hx hb dX4_addSession_25 rfl (lv_at hl 0 rfl) ?_
    refine k_get (C := RX4) (T := TX4) (N := 5) (v := .int (S 3 0 0)) hx hb hts inB_X4 hown hK hw (hL 3 0 rfl) cke_3 rfl 4 (by decide) (hts _ w_f_X4_24) (fun _ h9 => h9) rfl dX4_addSession_26 ?_
    refine lv_iload_n hx hb dX4_addSession_29 rfl (lv_at hl 2 rfl) ?_
    refine k_ast hx hb hK hw (hL 18 0 rfl) 0 cke_18 rfl (CI.in4 hI (lt_nle c_1)) (cK_up (i := ((S 3 0 0).toNatClampNeg)) (x := p2) (by decide) rfl) dX4_addSession_30 (fun H locs hw => ?_)
    refine lv_aload_n hx hb dX4_addSession_31 rfl (lv_at hl 0 rfl) ?_
    refine k_get (C := RX4) (T := TX4) (N := 5) (v := .ref (ad 19 0)) hx hb hts inB_X4 hown hK hw (hL 3 0 rfl) cke_3 rfl 2 (by decide) (hts _ w_f_X4_18) (fun _ h9 => h9) rfl dX4_addSession_32 ?_
    refine lv_aload_n hx hb dX4_addSession_35 rfl (lv_at hl 0 rfl) ?_
    refine k_get (C := RX4) (T := TX4) (N := 5) (v := .int (S 3 0 0)) hx hb hts inB_X4 hown hK hw (hL 3 0 rfl) cke_3 rfl 4 (by decide) (hts _ w_f_X4_24) (fun _ h9 => h9) rfl dX4_addSession_36 ?_
    refine lv_iload_n hx hb dX4_addSession_39 rfl (lv_at hl 3 rfl) ?_
    refine k_ast hx hb hK hw (hL 19 0 rfl) 0 cke_19 rfl (CI.in4 hI (lt_nle c_1)) (cK_up (i := ((S 3 0 0).toNatClampNeg)) (x := p3) (by decide) rfl) dX4_addSession_40 (fun H locs hw => ?_)
    refine lv_aload_n hx hb dX4_addSession_41 rfl (lv_at hl 0 rfl) ?_
    refine lv_dup hx hb dX4_addSession_42 rfl ?_
    refine k_get (C := RX4) (T := TX4) (N := 5) (v := .int (S 3 0 0)) hx hb hts inB_X4 hown hK hw (hL 3 0 rfl) cke_3 rfl 4 (by decide) (hts _ w_f_X4_24) (fun _ h9 => h9) rfl dX4_addSession_43 ?_
    refine lv_iconst (v := 1) hx hb dX4_addSession_46 (by decide) ?_
    refine lv_iadd hx hb dX4_addSession_47 ?_
    refine k_put (C := RX4) (T := TX4) (N := 5) (v := .int ((S 3 0 0) + 1)) (ty := .int) hx hb hts inB_X4 tyX4 tyX4_ok nmX4 hown hK hw (hL 3 0 rfl) cke_3 rfl 4 (by decide) (hts _ w_f_X4_24) (fun _ h9 => h9) rfl (by decide +kernel) rfl rfl (Nat.le_of_ble_eq_true rfl) (cK_up (i := 0) (x := ((S 3 0 0) + 1)) (by decide) rfl) dX4_addSession_48 (fun H locs hw => ?_)
    refine lv_aload_n hx hb dX4_addSession_51 rfl (lv_at hl 0 rfl) ?_
    refine k_get (C := RX4) (T := TX4) (N := 5) (v := .int ((up3 (up3 (up3 (up3 S 17 0 ((S 3 0 0).toNatClampNeg) p1) 18 0 ((S 3 0 0).toNatClampNeg) p2) 19 0 ((S 3 0 0).toNatClampNeg) p3) 3 0 0 ((S 3 0 0) + 1)) 3 0 0)) hx hb hts inB_X4 hown hK hw (hL 3 0 rfl) cke_3 rfl 4 (by decide) (hts _ w_f_X4_24) (fun _ h9 => h9) rfl dX4_addSession_52 ?_
    refine lv_iconst (v := 1) hx hb dX4_addSession_55 (by decide) ?_
    refine lv_isub hx hb dX4_addSession_56 ?_
    exact k_iretE hx hb hr hlocks rfl hw hE dX4_addSession_57
  · have hE := hE.trans (if_neg c_1)
    refine lv_iconst (v := (-1)) hx hb dX4_addSession_9 (by decide) ?_
    exact k_iretE hx hb hr hlocks rfl hw hE dX4_addSession_10

theorem ci_X4_addSession (S : (Nat → Nat → Nat → Int32)) (p1 : Int32) (p2 : Int32) (p3 : Int32) (h : CI S) : CI (sp_X4_addSession S p1 p2 p3).2 := by
  rw [un_X4_addSession]
  unfold rw_X4_addSession
  by_cases c0 : S 3 0 0 < 20
  · rw [if_pos c0]
    have c := lt_nle c0
    exact ⟨h.1, h.2.1, h.2.2.1, inc_le h.2.2.2.1.1 rfl (by decide) c, h.2.2.2.2⟩
  · rw [if_neg c0]; exact h

abbrev bw_X4_dayOf : List Cond := .code yX4_dayOf cX4_dayOf 2 (some .int) :: BIG
abbrev rm_X4_dayOf : Room := { frames := 0, cells := 0, slots := 0, locals := 0 }
noncomputable def sp_X4_dayOf (S : (Nat → Nat → Nat → Int32)) (p1 : Int32) : Int32 := if p1 < 0 then ((-1)) else (if p1 < S 3 0 0 then (S 18 0 p1.toNatClampNeg) else ((-1)))
set_option maxHeartbeats 1000000 in
set_option maxRecDepth 100000 in
theorem ct_X4_dayOf {l : Launch} {D : va_G} {cI cG cJ cO : ClassId} {K0 : Nat → Nat} {A : Nat → Prop} {L : List (Nat × Nat)} {ad : Nat → Nat → Nat} {ce : Nat → Nat → va_E} (hL : ∀ f o, cid f o = true → (f, o) ∈ L) (S : (Nat → Nat → Nat → Int32)) (hI : CI S) (p1 : Int32) (sz : Nat) (hA : ∀ q, sz ≤ q → A q) : Met l yX4_dayOf bw_X4_dayOf rm_X4_dayOf (kP D (ktys cI cG cJ cO) K0 A L ad (cK cI cJ ad ce S) sz [.ref (ad 3 0), .int p1]) (kQi D A (sp_X4_dayOf S p1) L ad (cK cI cJ ad ce S)) 0 0 A := by
  refine Met.ofW (cc := cX4_dayOf) (maxL := 2) (ret := (some .int)) (by decide) rfl ?_
  intro p e s m args below meth c s₁ B hml hv
  obtain ⟨hav, hsz, hP, hD, hK, hO⟩ := hv
  have hx := B.exec
  have hb := B.bytes
  have hr := B.returns
  have hts : ∀ w ∈ BIG, w.before args s = true := fun w h => atoms_spec (ws := bw_X4_dayOf) B.pre w (List.mem_cons_of_mem _ h)
  have hown : s.vm.findClass RX4 = some m.cls := findClass_of_methodNamed B.named
  have hlocks := B.notSynchronized
  subst hsz
  have hw := wk.start hP hD
  refine k_start (by rfl) hav (Nat.le_of_ble_eq_true rfl) (fun ls hl => ?_)
  have hl : lv_has ls 2 [(0, .ref (ad 3 0)), (1, .int p1)] := hl
  have hE : sp_X4_dayOf S p1 = sp_X4_dayOf S p1 := rfl
  refine lv_iload_n hx hb dX4_dayOf_0 rfl (lv_at hl 1 rfl) ?_
  refine lv_if_lt (tgt := 12) hx hb dX4_dayOf_1 (by decide) (fun c_1 => ?_) (fun c_1 => ?_)
  · have hE := hE.trans (if_pos c_1)
    refine lv_iconst (v := (-1)) hx hb dX4_dayOf_12 (by decide) ?_
    refine lv_goto (tgt := 22) hx hb dX4_dayOf_13 (by decide) ?_
    exact k_iret hx hb hr hlocks rfl hw hE rfl dX4_dayOf_22
  · have hE := hE.trans (if_neg c_1)
    refine lv_iload_n hx hb dX4_dayOf_4 rfl (lv_at hl 1 rfl) ?_
    refine lv_aload_n hx hb dX4_dayOf_5 rfl (lv_at hl 0 rfl) ?_
    refine k_get (C := RX4) (T := TX4) (N := 5) (v := .int (S 3 0 0)) hx hb hts inB_X4 hown hK hw (hL 3 0 rfl) cke_3 rfl 4 (by decide) (hts _ w_f_X4_24) (fun _ h9 => h9) rfl dX4_dayOf_6 ?_
    refine lv_icmp_lt (tgt := 16) hx hb dX4_dayOf_9 (by decide) (fun c_2 => ?_) (fun c_2 => ?_)
    · have hE := hE.trans (if_pos c_2)
      refine lv_aload_n hx hb dX4_dayOf_16 rfl (lv_at hl 0 rfl) ?_
      refine k_get (C := RX4) (T := TX4) (N := 5) (v := .ref (ad 18 0)) hx hb hts inB_X4 hown hK hw (hL 3 0 rfl) cke_3 rfl 1 (by decide) (hts _ w_f_X4_15) (fun _ h9 => h9) rfl dX4_dayOf_17 ?_
      refine lv_iload_n hx hb dX4_dayOf_20 rfl (lv_at hl 1 rfl) ?_
      refine k_ald hx hb hK hw (hL 18 0 rfl) 0 cke_18 rfl (k_in' c_1 c_2 (CI.le4 hI (by decide))) dX4_dayOf_21 ?_
      exact k_iret hx hb hr hlocks rfl hw hE rfl dX4_dayOf_22
    · have hE := hE.trans (if_neg c_2)
      refine lv_iconst (v := (-1)) hx hb dX4_dayOf_12 (by decide) ?_
      refine lv_goto (tgt := 22) hx hb dX4_dayOf_13 (by decide) ?_
      exact k_iret hx hb hr hlocks rfl hw hE rfl dX4_dayOf_22

abbrev bw_X4_book : List Cond := .code yX4_book cX4_book 6 (some .int) :: BIG
abbrev rm_X4_book : Room := { frames := 1, cells := 0, slots := 0, locals := 21 }
noncomputable def lp_X4_book_12 (S : (Nat → Nat → Nat → Int32)) (p1 : Int32) (p2 : Int32) : Nat → Nat → Int32 → Int32
  | 0, i, v3 => (v3)
  | k + 1, i, v3 => if S 17 0 i = p1 then (if S 19 0 i ≤ S 20 0 i then (lp_X4_book_12 S p1 p2 k (i + 1) v3) else (if S 18 0 i < p2 then (lp_X4_book_12 S p1 p2 k (i + 1) v3) else (if v3 = (-1) then (lp_X4_book_12 S p1 p2 k (i + 1) (nI i)) else (if sp_X4_dayOf S v3 ≤ S 18 0 i then (lp_X4_book_12 S p1 p2 k (i + 1) v3) else (lp_X4_book_12 S p1 p2 k (i + 1) (nI i)))))) else (lp_X4_book_12 S p1 p2 k (i + 1) v3)
theorem lz_lp_X4_book_12 (S : (Nat → Nat → Nat → Int32)) (p1 : Int32) (p2 : Int32) (i : Nat) (v3 : Int32) : lp_X4_book_12 S p1 p2 0 i v3 = (v3) := rfl
noncomputable def rw_X4_book (S : (Nat → Nat → Nat → Int32)) (p1 : Int32) (p2 : Int32) : Int32 × (Nat → Nat → Nat → Int32) := if p2 = (-1) then (((-1), S)) else (if (lp_X4_book_12 S p1 p2 ((S 3 0 0).toNatClampNeg) 0 (-1)) < 0 then (((lp_X4_book_12 S p1 p2 ((S 3 0 0).toNatClampNeg) 0 (-1)), S)) else (if S 3 0 0 ≤ (lp_X4_book_12 S p1 p2 ((S 3 0 0).toNatClampNeg) 0 (-1)) then (((lp_X4_book_12 S p1 p2 ((S 3 0 0).toNatClampNeg) 0 (-1)), S)) else (((lp_X4_book_12 S p1 p2 ((S 3 0 0).toNatClampNeg) 0 (-1)), (up3 S 20 0 ((lp_X4_book_12 S p1 p2 ((S 3 0 0).toNatClampNeg) 0 (-1)).toNatClampNeg) ((S 20 0 ((lp_X4_book_12 S p1 p2 ((S 3 0 0).toNatClampNeg) 0 (-1)).toNatClampNeg)) + 1))))))
/-- sealed: it unfolds by un_ alone -/
noncomputable def sp_X4_book : (Nat → Nat → Nat → Int32) → Int32 → Int32 → (Int32 × (Nat → Nat → Nat → Int32)) := Classical.choose (⟨rw_X4_book, rfl⟩ : ∃ f, f = rw_X4_book)
theorem un_X4_book (S : (Nat → Nat → Nat → Int32)) (p1 : Int32) (p2 : Int32) : sp_X4_book S p1 p2 = rw_X4_book S p1 p2 := (congrFun (congrFun (congrFun (Classical.choose_spec (⟨rw_X4_book, rfl⟩ : ∃ f, f = rw_X4_book)) S) p1) p2)
theorem sf_X4_book (S : (Nat → Nat → Nat → Int32)) (p1 : Int32) (p2 : Int32) : SF S (sp_X4_book S p1 p2).2 := by
  rw [un_X4_book]
  unfold rw_X4_book
  by_cases q_9 : p2 = (-1)
  · rw [if_pos q_9]
    exact (SF.rf _)
  · rw [if_neg q_9]
    by_cases q_10 : (lp_X4_book_12 S p1 p2 ((S 3 0 0).toNatClampNeg) 0 (-1)) < 0
    · rw [if_pos q_10]
      exact (SF.rf _)
    · rw [if_neg q_10]
      by_cases q_11 : S 3 0 0 ≤ (lp_X4_book_12 S p1 p2 ((S 3 0 0).toNatClampNeg) 0 (-1))
      · rw [if_pos q_11]
        exact (SF.rf _)
      · rw [if_neg q_11]
        exact (SF.up (by decide) (SF.rf _))

set_option maxHeartbeats 1000000 in
set_option maxRecDepth 100000 in
theorem ct_X4_book {l : Launch} {D : va_G} {cI cG cJ cO : ClassId} {K0 : Nat → Nat} {A : Nat → Prop} {L : List (Nat × Nat)} {ad : Nat → Nat → Nat} {ce : Nat → Nat → va_E} (hL : ∀ f o, cid f o = true → (f, o) ∈ L) (S : (Nat → Nat → Nat → Int32)) (hI : CI S) (p1 : Int32) (p2 : Int32) (sz : Nat) (hA : ∀ q, sz ≤ q → A q) : Met l yX4_book bw_X4_book rm_X4_book (kP D (ktys cI cG cJ cO) K0 A L ad (cK cI cJ ad ce S) sz [.ref (ad 3 0), .int p1, .int p2]) (kQi D A (sp_X4_book S p1 p2).1 L ad (cK cI cJ ad ce (sp_X4_book S p1 p2).2)) 0 0 A := by
  refine Met.ofW (cc := cX4_book) (maxL := 6) (ret := (some .int)) (by decide) rfl ?_
  intro p e s m args below meth c s₁ B hml hv
  obtain ⟨hav, hsz, hP, hD, hK, hO⟩ := hv
  have hx := B.exec
  have hb := B.bytes
  have hr := B.returns
  have hts : ∀ w ∈ BIG, w.before args s = true := fun w h => atoms_spec (ws := bw_X4_book) B.pre w (List.mem_cons_of_mem _ h)
  have hown : s.vm.findClass RX4 = some m.cls := findClass_of_methodNamed B.named
  have hlocks := B.notSynchronized
  subst hsz
  have hw := wk.start hP hD
  refine k_start (by rfl) hav (Nat.le_of_ble_eq_true rfl) (fun ls hl => ?_)
  have hl : lv_has ls 6 [(0, .ref (ad 3 0)), (1, .int p1), (2, .int p2)] := hl
  have hE : sp_X4_book S p1 p2 = rw_X4_book S p1 p2 := un_X4_book S p1 p2
  refine lv_iload_n hx hb dX4_book_0 rfl (lv_at hl 2 rfl) ?_
  refine lv_iconst (v := (-1)) hx hb dX4_book_1 (by decide) ?_
  refine lv_icmp_ne (tgt := 7) hx hb dX4_book_2 (by decide) (fun c_1 => ?_) (fun c_1 => ?_)
  · have hE := hE.trans (if_neg c_1)
    refine lv_iconst (v := (-1)) hx hb dX4_book_7 (by decide) ?_
    refine lv_istore_n (lv' := [(3, .int (-1)), (0, .ref (ad 3 0)), (1, .int p1), (2, .int p2)]) hx hb dX4_book_8 rfl hl (by decide) rfl (fun ls hl => ?_)
    refine lv_iconst (v := 0) hx hb dX4_book_9 (by decide) ?_
    refine lv_istore (lv' := [(4, .int 0), (3, .int (-1)), (0, .ref (ad 3 0)), (1, .int p1), (2, .int p2)]) hx hb dX4_book_10 hl (by decide) rfl (fun ls hl => ?_)
    have key_12 : ∀ (k i : Nat) (v3 : Int32) (H : Heap) (locs : List Loc) (ls : Array Slot), i + k = (S 3 0 0).toNatClampNeg → (lp_X4_book_12 S p1 p2 ((S 3 0 0).toNatClampNeg) 0 (-1)) = lp_X4_book_12 S p1 p2 k i v3 → wk D A L ad (cK cI cJ ad ce S) s.heap H locs → lv_has ls 6 [(0, .ref (ad 3 0)), (1, .int p1), (2, .int p2), (3, .int v3), (4, .int (nI i))] → W p l e (headSpec bw_X4_book rm_X4_book).room s m args below meth c H locs 0 0 (MQ below (kQi D A (sp_X4_book S p1 p2).1 L ad (cK cI cJ ad ce (sp_X4_book S p1 p2).2)) args s 0 0 A) (F0 m 12 ls []) := by
      intro k
      induction k with
      | zero =>
        intro i v3 H locs ls hk hV hw hl
        have hV := hV.trans (lz_lp_X4_book_12 S p1 p2 i v3)
        obtain rfl : v3 = (lp_X4_book_12 S p1 p2 ((S 3 0 0).toNatClampNeg) 0 (-1)) := hV.symm
        refine lv_iload hx hb dX4_book_12 (lv_at hl 4 rfl) ?_
        refine lv_aload_n hx hb dX4_book_14 rfl (lv_at hl 0 rfl) ?_
        refine k_get (C := RX4) (T := TX4) (N := 5) (v := .int (S 3 0 0)) hx hb hts inB_X4 hown hK hw (hL 3 0 rfl) cke_3 rfl 4 (by decide) (hts _ w_f_X4_24) (fun _ h9 => h9) rfl dX4_book_15 ?_
        refine lv_icmp_ge (tgt := 101) hx hb dX4_book_18 (by decide) (fun _ => ?_) (fun h => absurd (lp_o (SF.b4 (SF.rf _) hI) hk (cn_lt _)) h)
        refine lv_iload_n hx hb dX4_book_101 rfl (lv_at hl 3 rfl) ?_
        refine lv_if_lt (tgt := 123) hx hb dX4_book_102 (by decide) (fun c_2 => ?_) (fun c_2 => ?_)
        · have hE := hE.trans (if_pos c_2)
          refine lv_iload_n hx hb dX4_book_123 rfl (lv_at hl 3 rfl) ?_
          exact k_iretE hx hb hr hlocks rfl hw hE dX4_book_124
        · have hE := hE.trans (if_neg c_2)
          refine lv_iload_n hx hb dX4_book_105 rfl (lv_at hl 3 rfl) ?_
          refine lv_aload_n hx hb dX4_book_106 rfl (lv_at hl 0 rfl) ?_
          refine k_get (C := RX4) (T := TX4) (N := 5) (v := .int (S 3 0 0)) hx hb hts inB_X4 hown hK hw (hL 3 0 rfl) cke_3 rfl 4 (by decide) (hts _ w_f_X4_24) (fun _ h9 => h9) rfl dX4_book_107 ?_
          refine lv_icmp_ge (tgt := 123) hx hb dX4_book_110 (by decide) (fun c_3 => ?_) (fun c_3 => ?_)
          · have hE := hE.trans (if_pos c_3)
            refine lv_iload_n hx hb dX4_book_123 rfl (lv_at hl 3 rfl) ?_
            exact k_iretE hx hb hr hlocks rfl hw hE dX4_book_124
          · have hE := hE.trans (if_neg c_3)
            refine lv_aload_n hx hb dX4_book_113 rfl (lv_at hl 0 rfl) ?_
            refine k_get (C := RX4) (T := TX4) (N := 5) (v := .ref (ad 20 0)) hx hb hts inB_X4 hown hK hw (hL 3 0 rfl) cke_3 rfl 3 (by decide) (hts _ w_f_X4_21) (fun _ h9 => h9) rfl dX4_book_114 ?_
            refine lv_iload_n hx hb dX4_book_117 rfl (lv_at hl 3 rfl) ?_
            refine lv_dup2_11 hx hb dX4_book_118 rfl rfl ?_
            refine k_ald hx hb hK hw (hL 20 0 rfl) 0 cke_20 rfl (k_in c_2 c_3 (CI.le4 hI (by decide))) dX4_book_119 ?_
            refine lv_iconst (v := 1) hx hb dX4_book_120 (by decide) ?_
            refine lv_iadd hx hb dX4_book_121 ?_
            refine k_ast hx hb hK hw (hL 20 0 rfl) 0 cke_20 rfl (k_in c_2 c_3 (CI.le4 hI (by decide))) (cK_up (i := ((lp_X4_book_12 S p1 p2 ((S 3 0 0).toNatClampNeg) 0 (-1)).toNatClampNeg)) (x := ((S 20 0 ((lp_X4_book_12 S p1 p2 ((S 3 0 0).toNatClampNeg) 0 (-1)).toNatClampNeg)) + 1)) (by decide) rfl) dX4_book_122 (fun H locs hw => ?_)
            refine lv_iload_n hx hb dX4_book_123 rfl (lv_at hl 3 rfl) ?_
            exact k_iretE hx hb hr hlocks rfl hw hE dX4_book_124
      | succ k ih =>
        intro i v3 H locs ls hk hV hw hl
        refine lv_iload hx hb dX4_book_12 (lv_at hl 4 rfl) ?_
        refine lv_aload_n hx hb dX4_book_14 rfl (lv_at hl 0 rfl) ?_
        refine k_get (C := RX4) (T := TX4) (N := 5) (v := .int (S 3 0 0)) hx hb hts inB_X4 hown hK hw (hL 3 0 rfl) cke_3 rfl 4 (by decide) (hts _ w_f_X4_24) (fun _ h9 => h9) rfl dX4_book_15 ?_
        refine lv_icmp_ge (tgt := 101) hx hb dX4_book_18 (by decide) (fun h => absurd h (lp_i (SF.b4 (SF.rf _) hI) hk (cn_lt _))) (fun _ => ?_)
        refine lv_aload_n hx hb dX4_book_21 rfl (lv_at hl 0 rfl) ?_
        refine k_get (C := RX4) (T := TX4) (N := 5) (v := .ref (ad 17 0)) hx hb hts inB_X4 hown hK hw (hL 3 0 rfl) cke_3 rfl 0 (by decide) (hts _ w_f_X4_9) (fun _ h9 => h9) rfl dX4_book_22 ?_
        refine lv_iload hx hb dX4_book_25 (lv_at hl 4 rfl) ?_
        refine k_aldn hx hb hK hw (hL 17 0 rfl) 0 cke_17 rfl (Nat.lt_of_lt_of_le (lp_l hk) (CI.n4 hI)) (by decide) dX4_book_27 ?_
        refine lv_iload_n hx hb dX4_book_28 rfl (lv_at hl 1 rfl) ?_
        refine lv_icmp_ne (tgt := 64) hx hb dX4_book_29 (by decide) (fun c_4 => ?_) (fun c_4 => ?_)
        · have hV := hV.trans (if_neg c_4)
          refine lv_iconst (v := 0) hx hb dX4_book_64 (by decide) ?_
          refine lv_istore (lv' := [(5, .int 0), (0, .ref (ad 3 0)), (1, .int p1), (2, .int p2), (3, .int v3), (4, .int (nI i))]) hx hb dX4_book_65 hl (by decide) rfl (fun ls hl => ?_)
          refine lv_iload hx hb dX4_book_67 (lv_at hl 0 rfl) ?_
          refine lv_if_eq (tgt := 95) hx hb dX4_book_69 (by decide) (fun _ => ?_) (fun h => absurd (by decide) h)
          refine lv_iinc (v := (nI (i + 1))) (lv' := [(4, .int (nI (i + 1))), (5, .int 0), (0, .ref (ad 3 0)), (1, .int p1), (2, .int p2), (3, .int v3)]) hx hb dX4_book_95 hl (k := 5) rfl (nI_1 _) (by decide) rfl (fun ls hl => ?_)
          refine lv_goto (tgt := 12) hx hb dX4_book_98 (by decide) ?_
          exact ih (i + 1) v3 _ _ _ (lp_s hk) hV hw (lv_sub hl [2, 3, 4, 5, 0] rfl)
        · have hV := hV.trans (if_pos c_4)
          refine lv_aload_n hx hb dX4_book_32 rfl (lv_at hl 0 rfl) ?_
          refine k_get (C := RX4) (T := TX4) (N := 5) (v := .ref (ad 20 0)) hx hb hts inB_X4 hown hK hw (hL 3 0 rfl) cke_3 rfl 3 (by decide) (hts _ w_f_X4_21) (fun _ h9 => h9) rfl dX4_book_33 ?_
          refine lv_iload hx hb dX4_book_36 (lv_at hl 4 rfl) ?_
          refine k_aldn hx hb hK hw (hL 20 0 rfl) 0 cke_20 rfl (Nat.lt_of_lt_of_le (lp_l hk) (CI.n4 hI)) (by decide) dX4_book_38 ?_
          refine lv_aload_n hx hb dX4_book_39 rfl (lv_at hl 0 rfl) ?_
          refine k_get (C := RX4) (T := TX4) (N := 5) (v := .ref (ad 19 0)) hx hb hts inB_X4 hown hK hw (hL 3 0 rfl) cke_3 rfl 2 (by decide) (hts _ w_f_X4_18) (fun _ h9 => h9) rfl dX4_book_40 ?_
          refine lv_iload hx hb dX4_book_43 (lv_at hl 4 rfl) ?_
          refine k_aldn hx hb hK hw (hL 19 0 rfl) 0 cke_19 rfl (Nat.lt_of_lt_of_le (lp_l hk) (CI.n4 hI)) (by decide) dX4_book_45 ?_
          refine lv_icmp_ge (tgt := 64) hx hb dX4_book_46 (by decide) (fun c_5 => ?_) (fun c_5 => ?_)
          · have hV := hV.trans (if_pos c_5)
            refine lv_iconst (v := 0) hx hb dX4_book_64 (by decide) ?_
            refine lv_istore (lv' := [(5, .int 0), (0, .ref (ad 3 0)), (1, .int p1), (2, .int p2), (3, .int v3), (4, .int (nI i))]) hx hb dX4_book_65 hl (by decide) rfl (fun ls hl => ?_)
            refine lv_iload hx hb dX4_book_67 (lv_at hl 0 rfl) ?_
            refine lv_if_eq (tgt := 95) hx hb dX4_book_69 (by decide) (fun _ => ?_) (fun h => absurd (by decide) h)
            refine lv_iinc (v := (nI (i + 1))) (lv' := [(4, .int (nI (i + 1))), (5, .int 0), (0, .ref (ad 3 0)), (1, .int p1), (2, .int p2), (3, .int v3)]) hx hb dX4_book_95 hl (k := 5) rfl (nI_1 _) (by decide) rfl (fun ls hl => ?_)
            refine lv_goto (tgt := 12) hx hb dX4_book_98 (by decide) ?_
            exact ih (i + 1) v3 _ _ _ (lp_s hk) hV hw (lv_sub hl [2, 3, 4, 5, 0] rfl)
          · have hV := hV.trans (if_neg c_5)
            refine lv_aload_n hx hb dX4_book_49 rfl (lv_at hl 0 rfl) ?_
            refine k_get (C := RX4) (T := TX4) (N := 5) (v := .ref (ad 18 0)) hx hb hts inB_X4 hown hK hw (hL 3 0 rfl) cke_3 rfl 1 (by decide) (hts _ w_f_X4_15) (fun _ h9 => h9) rfl dX4_book_50 ?_
            refine lv_iload hx hb dX4_book_53 (lv_at hl 4 rfl) ?_
            refine k_aldn hx hb hK hw (hL 18 0 rfl) 0 cke_18 rfl (Nat.lt_of_lt_of_le (lp_l hk) (CI.n4 hI)) (by decide) dX4_book_55 ?_
            refine lv_iload_n hx hb dX4_book_56 rfl (lv_at hl 2 rfl) ?_
            refine lv_icmp_lt (tgt := 64) hx hb dX4_book_57 (by decide) (fun c_6 => ?_) (fun c_6 => ?_)
            · have hV := hV.trans (if_pos c_6)
              refine lv_iconst (v := 0) hx hb dX4_book_64 (by decide) ?_
              refine lv_istore (lv' := [(5, .int 0), (0, .ref (ad 3 0)), (1, .int p1), (2, .int p2), (3, .int v3), (4, .int (nI i))]) hx hb dX4_book_65 hl (by decide) rfl (fun ls hl => ?_)
              refine lv_iload hx hb dX4_book_67 (lv_at hl 0 rfl) ?_
              refine lv_if_eq (tgt := 95) hx hb dX4_book_69 (by decide) (fun _ => ?_) (fun h => absurd (by decide) h)
              refine lv_iinc (v := (nI (i + 1))) (lv' := [(4, .int (nI (i + 1))), (5, .int 0), (0, .ref (ad 3 0)), (1, .int p1), (2, .int p2), (3, .int v3)]) hx hb dX4_book_95 hl (k := 5) rfl (nI_1 _) (by decide) rfl (fun ls hl => ?_)
              refine lv_goto (tgt := 12) hx hb dX4_book_98 (by decide) ?_
              exact ih (i + 1) v3 _ _ _ (lp_s hk) hV hw (lv_sub hl [2, 3, 4, 5, 0] rfl)
            · have hV := hV.trans (if_neg c_6)
              refine lv_iconst (v := 1) hx hb dX4_book_60 (by decide) ?_
              refine lv_goto (tgt := 65) hx hb dX4_book_61 (by decide) ?_
              refine lv_istore (lv' := [(5, .int 1), (0, .ref (ad 3 0)), (1, .int p1), (2, .int p2), (3, .int v3), (4, .int (nI i))]) hx hb dX4_book_65 hl (by decide) rfl (fun ls hl => ?_)
              refine lv_iload hx hb dX4_book_67 (lv_at hl 0 rfl) ?_
              refine lv_if_eq (tgt := 95) hx hb dX4_book_69 (by decide) (fun h => absurd h (by decide)) (fun _ => ?_)
              refine lv_iload_n hx hb dX4_book_72 rfl (lv_at hl 4 rfl) ?_
              refine lv_iconst (v := (-1)) hx hb dX4_book_73 (by decide) ?_
              refine lv_icmp_eq (tgt := 92) hx hb dX4_book_74 (by decide) (fun c_7 => ?_) (fun c_7 => ?_)
              · have hV := hV.trans (if_pos c_7)
                refine lv_iload hx hb dX4_book_92 (lv_at hl 5 rfl) ?_
                refine lv_istore_n (lv' := [(3, .int (nI i)), (5, .int 1), (0, .ref (ad 3 0)), (1, .int p1), (2, .int p2), (4, .int (nI i))]) hx hb dX4_book_94 rfl hl (by decide) rfl (fun ls hl => ?_)
                refine lv_iinc (v := (nI (i + 1))) (lv' := [(4, .int (nI (i + 1))), (3, .int (nI i)), (5, .int 1), (0, .ref (ad 3 0)), (1, .int p1), (2, .int p2)]) hx hb dX4_book_95 hl (k := 5) rfl (nI_1 _) (by decide) rfl (fun ls hl => ?_)
                refine lv_goto (tgt := 12) hx hb dX4_book_98 (by decide) ?_
                exact ih (i + 1) (nI i) _ _ _ (lp_s hk) hV hw (lv_sub hl [3, 4, 5, 1, 0] rfl)
              · have hV := hV.trans (if_neg c_7)
                refine lv_aload_n hx hb dX4_book_77 rfl (lv_at hl 1 rfl) ?_
                refine k_get (C := RX4) (T := TX4) (N := 5) (v := .ref (ad 18 0)) hx hb hts inB_X4 hown hK hw (hL 3 0 rfl) cke_3 rfl 1 (by decide) (hts _ w_f_X4_15) (fun _ h9 => h9) rfl dX4_book_78 ?_
                refine lv_iload hx hb dX4_book_81 (lv_at hl 5 rfl) ?_
                refine k_aldn hx hb hK hw (hL 18 0 rfl) 0 cke_18 rfl (Nat.lt_of_lt_of_le (lp_l hk) (CI.n4 hI)) (by decide) dX4_book_83 ?_
                refine lv_aload_n hx hb dX4_book_84 rfl (lv_at hl 1 rfl) ?_
                refine lv_iload_n hx hb dX4_book_85 rfl (lv_at hl 4 rfl) ?_
                refine k_ci0 hw (k_rV (As := [.int v3]) (rest := [.int (S 18 0 i)]) ⟨hx, hb, hml, hown, hts⟩ hK hO hw (ct_X4_dayOf hL S (SF.ci (SF.rf _) hI) v3 _ (wk.hA hw hA)) (cwV 1 hts (gB_V w_ml_X4_28 w_im_X4_dayOf w_se_X4_dayOf w_in_X4 w_co_X4_dayOf) rfl rfl rfl (by decide +kernel) ⟨by decide, by decide⟩) (hL 3 0 rfl) cke_3 rfl rfl hl.1 rfl (Nat.le_of_ble_eq_true rfl) dX4_book_86 ⟨Nat.le_of_ble_eq_true rfl, Nat.le_of_ble_eq_true rfl⟩) (fun H locs hw => ?_)
                refine lv_icmp_ge (tgt := 95) hx hb dX4_book_89 (by decide) (fun c_8 => ?_) (fun c_8 => ?_)
                · have hV := hV.trans (if_pos c_8)
                  refine lv_iinc (v := (nI (i + 1))) (lv' := [(4, .int (nI (i + 1))), (5, .int 1), (0, .ref (ad 3 0)), (1, .int p1), (2, .int p2), (3, .int v3)]) hx hb dX4_book_95 hl (k := 5) rfl (nI_1 _) (by decide) rfl (fun ls hl => ?_)
                  refine lv_goto (tgt := 12) hx hb dX4_book_98 (by decide) ?_
                  exact ih (i + 1) v3 _ _ _ (lp_s hk) hV hw (lv_sub hl [2, 3, 4, 5, 0] rfl)
                · have hV := hV.trans (if_neg c_8)
                  refine lv_iload hx hb dX4_book_92 (lv_at hl 5 rfl) ?_
                  refine lv_istore_n (lv' := [(3, .int (nI i)), (5, .int 1), (0, .ref (ad 3 0)), (1, .int p1), (2, .int p2), (4, .int (nI i))]) hx hb dX4_book_94 rfl hl (by decide) rfl (fun ls hl => ?_)
                  refine lv_iinc (v := (nI (i + 1))) (lv' := [(4, .int (nI (i + 1))), (3, .int (nI i)), (5, .int 1), (0, .ref (ad 3 0)), (1, .int p1), (2, .int p2)]) hx hb dX4_book_95 hl (k := 5) rfl (nI_1 _) (by decide) rfl (fun ls hl => ?_)
                  refine lv_goto (tgt := 12) hx hb dX4_book_98 (by decide) ?_
                  exact ih (i + 1) (nI i) _ _ _ (lp_s hk) hV hw (lv_sub hl [3, 4, 5, 1, 0] rfl)
    exact key_12 ((S 3 0 0).toNatClampNeg) 0 (-1) _ _ _ (Nat.zero_add _) rfl hw (lv_sub hl [2, 3, 4, 1, 0] rfl)
  · have hE := hE.trans (if_pos c_1)
    refine lv_iconst (v := (-1)) hx hb dX4_book_5 (by decide) ?_
    exact k_iretE hx hb hr hlocks rfl hw hE dX4_book_6

abbrev bw_X4_release : List Cond := .code yX4_release cX4_release 2 none :: BIG
abbrev rm_X4_release : Room := { frames := 0, cells := 0, slots := 0, locals := 0 }
noncomputable def rw_X4_release (S : (Nat → Nat → Nat → Int32)) (p1 : Int32) : (Nat → Nat → Nat → Int32) := if p1 < 0 then (S) else (if S 3 0 0 ≤ p1 then (S) else ((up3 S 20 0 p1.toNatClampNeg ((S 20 0 p1.toNatClampNeg) - 1))))
/-- sealed: it unfolds by un_ alone -/
noncomputable def sp_X4_release : (Nat → Nat → Nat → Int32) → Int32 → ((Nat → Nat → Nat → Int32)) := Classical.choose (⟨rw_X4_release, rfl⟩ : ∃ f, f = rw_X4_release)
theorem un_X4_release (S : (Nat → Nat → Nat → Int32)) (p1 : Int32) : sp_X4_release S p1 = rw_X4_release S p1 := (congrFun (congrFun (Classical.choose_spec (⟨rw_X4_release, rfl⟩ : ∃ f, f = rw_X4_release)) S) p1)
theorem sf_X4_release (S : (Nat → Nat → Nat → Int32)) (p1 : Int32) : SF S (sp_X4_release S p1) := by
  rw [un_X4_release]
  unfold rw_X4_release
  by_cases q_3 : p1 < 0
  · rw [if_pos q_3]
    exact (SF.rf _)
  · rw [if_neg q_3]
    by_cases q_4 : S 3 0 0 ≤ p1
    · rw [if_pos q_4]
      exact (SF.rf _)
    · rw [if_neg q_4]
      exact (SF.up (by decide) (SF.rf _))

set_option maxHeartbeats 1000000 in
set_option maxRecDepth 100000 in
theorem ct_X4_release {l : Launch} {D : va_G} {cI cG cJ cO : ClassId} {K0 : Nat → Nat} {A : Nat → Prop} {L : List (Nat × Nat)} {ad : Nat → Nat → Nat} {ce : Nat → Nat → va_E} (hL : ∀ f o, cid f o = true → (f, o) ∈ L) (S : (Nat → Nat → Nat → Int32)) (hI : CI S) (p1 : Int32) (sz : Nat) (hA : ∀ q, sz ≤ q → A q) : Met l yX4_release bw_X4_release rm_X4_release (kP D (ktys cI cG cJ cO) K0 A L ad (cK cI cJ ad ce S) sz [.ref (ad 3 0), .int p1]) (kQv D A L ad (cK cI cJ ad ce (sp_X4_release S p1))) 0 0 A := by
  refine Met.ofW (cc := cX4_release) (maxL := 2) (ret := none) (by decide) rfl ?_
  intro p e s m args below meth c s₁ B hml hv
  obtain ⟨hav, hsz, hP, hD, hK, hO⟩ := hv
  have hx := B.exec
  have hb := B.bytes
  have hr := B.returns
  have hts : ∀ w ∈ BIG, w.before args s = true := fun w h => atoms_spec (ws := bw_X4_release) B.pre w (List.mem_cons_of_mem _ h)
  have hown : s.vm.findClass RX4 = some m.cls := findClass_of_methodNamed B.named
  have hlocks := B.notSynchronized
  subst hsz
  have hw := wk.start hP hD
  refine k_start (by rfl) hav (Nat.le_of_ble_eq_true rfl) (fun ls hl => ?_)
  have hl : lv_has ls 2 [(0, .ref (ad 3 0)), (1, .int p1)] := hl
  have hE : sp_X4_release S p1 = rw_X4_release S p1 := un_X4_release S p1
  refine lv_iload_n hx hb dX4_release_0 rfl (lv_at hl 1 rfl) ?_
  refine lv_if_lt (tgt := 22) hx hb dX4_release_1 (by decide) (fun c_1 => ?_) (fun c_1 => ?_)
  · have hE := hE.trans (if_pos c_1)
    exact k_vretE hx hb hr hlocks hw hE dX4_release_22
  · have hE := hE.trans (if_neg c_1)
    refine lv_iload_n hx hb dX4_release_4 rfl (lv_at hl 1 rfl) ?_
    refine lv_aload_n hx hb dX4_release_5 rfl (lv_at hl 0 rfl) ?_
    refine k_get (C := RX4) (T := TX4) (N := 5) (v := .int (S 3 0 0)) hx hb hts inB_X4 hown hK hw (hL 3 0 rfl) cke_3 rfl 4 (by decide) (hts _ w_f_X4_24) (fun _ h9 => h9) rfl dX4_release_6 ?_
    refine lv_icmp_ge (tgt := 22) hx hb dX4_release_9 (by decide) (fun c_2 => ?_) (fun c_2 => ?_)
    · have hE := hE.trans (if_pos c_2)
      exact k_vretE hx hb hr hlocks hw hE dX4_release_22
    · have hE := hE.trans (if_neg c_2)
      refine lv_aload_n hx hb dX4_release_12 rfl (lv_at hl 0 rfl) ?_
      refine k_get (C := RX4) (T := TX4) (N := 5) (v := .ref (ad 20 0)) hx hb hts inB_X4 hown hK hw (hL 3 0 rfl) cke_3 rfl 3 (by decide) (hts _ w_f_X4_21) (fun _ h9 => h9) rfl dX4_release_13 ?_
      refine lv_iload_n hx hb dX4_release_16 rfl (lv_at hl 1 rfl) ?_
      refine lv_dup2_11 hx hb dX4_release_17 rfl rfl ?_
      refine k_ald hx hb hK hw (hL 20 0 rfl) 0 cke_20 rfl (k_in c_1 c_2 (CI.le4 hI (by decide))) dX4_release_18 ?_
      refine lv_iconst (v := 1) hx hb dX4_release_19 (by decide) ?_
      refine lv_isub hx hb dX4_release_20 ?_
      refine k_ast hx hb hK hw (hL 20 0 rfl) 0 cke_20 rfl (k_in c_1 c_2 (CI.le4 hI (by decide))) (cK_up (i := p1.toNatClampNeg) (x := ((S 20 0 p1.toNatClampNeg) - 1)) (by decide) rfl) dX4_release_21 (fun H locs hw => ?_)
      exact k_vretE hx hb hr hlocks hw hE dX4_release_22

abbrev bw_X4_seatsTaken : List Cond := .code yX4_seatsTaken cX4_seatsTaken 3 (some .int) :: BIG
abbrev rm_X4_seatsTaken : Room := { frames := 0, cells := 0, slots := 0, locals := 0 }
noncomputable def lp_X4_seatsTaken_4 (S : (Nat → Nat → Nat → Int32)) : Nat → Nat → Int32 → Int32
  | 0, i, v1 => (v1)
  | k + 1, i, v1 => lp_X4_seatsTaken_4 S k (i + 1) (v1 + (S 20 0 i))
theorem lz_lp_X4_seatsTaken_4 (S : (Nat → Nat → Nat → Int32)) (i : Nat) (v1 : Int32) : lp_X4_seatsTaken_4 S 0 i v1 = (v1) := rfl
theorem ls_lp_X4_seatsTaken_4 (S : (Nat → Nat → Nat → Int32)) (k i : Nat) (v1 : Int32) : lp_X4_seatsTaken_4 S (k + 1) i v1 = lp_X4_seatsTaken_4 S k (i + 1) (v1 + (S 20 0 i)) := rfl
noncomputable def sp_X4_seatsTaken (S : (Nat → Nat → Nat → Int32)) : Int32 := (lp_X4_seatsTaken_4 S ((S 3 0 0).toNatClampNeg) 0 0)
set_option maxHeartbeats 1000000 in
set_option maxRecDepth 100000 in
theorem ct_X4_seatsTaken {l : Launch} {D : va_G} {cI cG cJ cO : ClassId} {K0 : Nat → Nat} {A : Nat → Prop} {L : List (Nat × Nat)} {ad : Nat → Nat → Nat} {ce : Nat → Nat → va_E} (hL : ∀ f o, cid f o = true → (f, o) ∈ L) (S : (Nat → Nat → Nat → Int32)) (hI : CI S) (sz : Nat) (hA : ∀ q, sz ≤ q → A q) : Met l yX4_seatsTaken bw_X4_seatsTaken rm_X4_seatsTaken (kP D (ktys cI cG cJ cO) K0 A L ad (cK cI cJ ad ce S) sz [.ref (ad 3 0)]) (kQi D A (sp_X4_seatsTaken S) L ad (cK cI cJ ad ce S)) 0 0 A := by
  refine Met.ofW (cc := cX4_seatsTaken) (maxL := 3) (ret := (some .int)) (by decide) rfl ?_
  intro p e s m args below meth c s₁ B hml hv
  obtain ⟨hav, hsz, hP, hD, hK, hO⟩ := hv
  have hx := B.exec
  have hb := B.bytes
  have hr := B.returns
  have hts : ∀ w ∈ BIG, w.before args s = true := fun w h => atoms_spec (ws := bw_X4_seatsTaken) B.pre w (List.mem_cons_of_mem _ h)
  have hown : s.vm.findClass RX4 = some m.cls := findClass_of_methodNamed B.named
  have hlocks := B.notSynchronized
  subst hsz
  have hw := wk.start hP hD
  refine k_start (by rfl) hav (Nat.le_of_ble_eq_true rfl) (fun ls hl => ?_)
  have hl : lv_has ls 3 [(0, .ref (ad 3 0))] := hl
  have hE : sp_X4_seatsTaken S = (lp_X4_seatsTaken_4 S ((S 3 0 0).toNatClampNeg) 0 0) := by unfold sp_X4_seatsTaken; rfl
  refine lv_iconst (v := 0) hx hb dX4_seatsTaken_0 (by decide) ?_
  refine lv_istore_n (lv' := [(1, .int 0), (0, .ref (ad 3 0))]) hx hb dX4_seatsTaken_1 rfl hl (by decide) rfl (fun ls hl => ?_)
  refine lv_iconst (v := 0) hx hb dX4_seatsTaken_2 (by decide) ?_
  refine lv_istore_n (lv' := [(2, .int 0), (1, .int 0), (0, .ref (ad 3 0))]) hx hb dX4_seatsTaken_3 rfl hl (by decide) rfl (fun ls hl => ?_)
  have key_4 : ∀ (k i : Nat) (v1 : Int32) (H : Heap) (locs : List Loc) (ls : Array Slot), i + k = (S 3 0 0).toNatClampNeg → (lp_X4_seatsTaken_4 S ((S 3 0 0).toNatClampNeg) 0 0) = lp_X4_seatsTaken_4 S k i v1 → wk D A L ad (cK cI cJ ad ce S) s.heap H locs → lv_has ls 3 [(0, .ref (ad 3 0)), (1, .int v1), (2, .int (nI i))] → W p l e (headSpec bw_X4_seatsTaken rm_X4_seatsTaken).room s m args below meth c H locs 0 0 (MQ below (kQi D A (sp_X4_seatsTaken S) L ad (cK cI cJ ad ce S)) args s 0 0 A) (F0 m 4 ls []) := by
    intro k
    induction k with
    | zero =>
      intro i v1 H locs ls hk hV hw hl
      have hV := hV.trans (lz_lp_X4_seatsTaken_4 S i v1)
      obtain rfl : v1 = (lp_X4_seatsTaken_4 S ((S 3 0 0).toNatClampNeg) 0 0) := hV.symm
      refine lv_iload_n hx hb dX4_seatsTaken_4 rfl (lv_at hl 2 rfl) ?_
      refine lv_aload_n hx hb dX4_seatsTaken_5 rfl (lv_at hl 0 rfl) ?_
      refine k_get (C := RX4) (T := TX4) (N := 5) (v := .int (S 3 0 0)) hx hb hts inB_X4 hown hK hw (hL 3 0 rfl) cke_3 rfl 4 (by decide) (hts _ w_f_X4_24) (fun _ h9 => h9) rfl dX4_seatsTaken_6 ?_
      refine lv_icmp_ge (tgt := 27) hx hb dX4_seatsTaken_9 (by decide) (fun _ => ?_) (fun h => absurd (lp_o (SF.b4 (SF.rf _) hI) hk (cn_lt _)) h)
      refine lv_iload_n hx hb dX4_seatsTaken_27 rfl (lv_at hl 1 rfl) ?_
      exact k_iret hx hb hr hlocks rfl hw hE rfl dX4_seatsTaken_28
    | succ k ih =>
      intro i v1 H locs ls hk hV hw hl
      have hV := hV.trans (ls_lp_X4_seatsTaken_4 S k i v1)
      refine lv_iload_n hx hb dX4_seatsTaken_4 rfl (lv_at hl 2 rfl) ?_
      refine lv_aload_n hx hb dX4_seatsTaken_5 rfl (lv_at hl 0 rfl) ?_
      refine k_get (C := RX4) (T := TX4) (N := 5) (v := .int (S 3 0 0)) hx hb hts inB_X4 hown hK hw (hL 3 0 rfl) cke_3 rfl 4 (by decide) (hts _ w_f_X4_24) (fun _ h9 => h9) rfl dX4_seatsTaken_6 ?_
      refine lv_icmp_ge (tgt := 27) hx hb dX4_seatsTaken_9 (by decide) (fun h => absurd h (lp_i (SF.b4 (SF.rf _) hI) hk (cn_lt _))) (fun _ => ?_)
      refine lv_iload_n hx hb dX4_seatsTaken_12 rfl (lv_at hl 1 rfl) ?_
      refine lv_aload_n hx hb dX4_seatsTaken_13 rfl (lv_at hl 0 rfl) ?_
      refine k_get (C := RX4) (T := TX4) (N := 5) (v := .ref (ad 20 0)) hx hb hts inB_X4 hown hK hw (hL 3 0 rfl) cke_3 rfl 3 (by decide) (hts _ w_f_X4_21) (fun _ h9 => h9) rfl dX4_seatsTaken_14 ?_
      refine lv_iload_n hx hb dX4_seatsTaken_17 rfl (lv_at hl 2 rfl) ?_
      refine k_aldn hx hb hK hw (hL 20 0 rfl) 0 cke_20 rfl (Nat.lt_of_lt_of_le (lp_l hk) (CI.n4 hI)) (by decide) dX4_seatsTaken_18 ?_
      refine lv_iadd hx hb dX4_seatsTaken_19 ?_
      refine lv_istore_n (lv' := [(1, .int (v1 + (S 20 0 i))), (0, .ref (ad 3 0)), (2, .int (nI i))]) hx hb dX4_seatsTaken_20 rfl hl (by decide) rfl (fun ls hl => ?_)
      refine lv_iinc (v := (nI (i + 1))) (lv' := [(2, .int (nI (i + 1))), (1, .int (v1 + (S 20 0 i))), (0, .ref (ad 3 0))]) hx hb dX4_seatsTaken_21 hl (k := 2) rfl (nI_1 _) (by decide) rfl (fun ls hl => ?_)
      refine lv_goto (tgt := 4) hx hb dX4_seatsTaken_24 (by decide) ?_
      exact ih (i + 1) (v1 + (S 20 0 i)) _ _ _ (lp_s hk) hV hw (lv_sub hl [2, 1, 0] rfl)
  exact key_4 ((S 3 0 0).toNatClampNeg) 0 0 _ _ _ (Nat.zero_add _) rfl hw (lv_sub hl [2, 1, 0] rfl)
