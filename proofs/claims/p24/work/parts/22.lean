abbrev bw_X3_hasPiece : List Cond := .code yX3_hasPiece cX3_hasPiece 2 (some .boolean) :: BIG
abbrev rm_X3_hasPiece : Room := { frames := 0, cells := 0, slots := 0, locals := 0 }
noncomputable def sp_X3_hasPiece (S : (Nat → Nat → Nat → Int32)) (p1 : Int32) : Int32 := if p1 < 0 then (0) else (if 4 ≤ p1 then (0) else (if S 13 0 p1.toNatClampNeg ≤ 0 then (0) else (1)))
set_option maxHeartbeats 1000000 in
set_option maxRecDepth 100000 in
theorem ct_X3_hasPiece {l : Launch} {D : va_G} {cI cG cJ cO : ClassId} {K0 : Nat → Nat} {A : Nat → Prop} {L : List (Nat × Nat)} {ad : Nat → Nat → Nat} {ce : Nat → Nat → va_E} (hL : ∀ f o, cid f o = true → (f, o) ∈ L) (S : (Nat → Nat → Nat → Int32)) (hI : CI S) (p1 : Int32) (sz : Nat) (hA : ∀ q, sz ≤ q → A q) : Met l yX3_hasPiece bw_X3_hasPiece rm_X3_hasPiece (kP D (ktys cI cG cJ cO) K0 A L ad (cK cI cJ ad ce S) sz [.ref (ad 2 0), .int p1]) (kQi D A (sp_X3_hasPiece S p1) L ad (cK cI cJ ad ce S)) 0 0 A := by
  refine Met.ofW (cc := cX3_hasPiece) (maxL := 2) (ret := (some .boolean)) (by decide) rfl ?_
  intro p e s m args below meth c s₁ B hml hv
  obtain ⟨hav, hsz, hP, hD, hK, hO⟩ := hv
  have hx := B.exec
  have hb := B.bytes
  have hr := B.returns
  have hts : ∀ w ∈ BIG, w.before args s = true := fun w h => atoms_spec (ws := bw_X3_hasPiece) B.pre w (List.mem_cons_of_mem _ h)
  have hown : s.vm.findClass RX3 = some m.cls := findClass_of_methodNamed B.named
  have hlocks := B.notSynchronized
  subst hsz
  have hw := wk.start hP hD
  refine k_start (by rfl) hav (Nat.le_of_ble_eq_true rfl) (fun ls hl => ?_)
  have hl : lv_has ls 2 [(0, .ref (ad 2 0)), (1, .int p1)] := hl
  have hE : sp_X3_hasPiece S p1 = sp_X3_hasPiece S p1 := rfl
  refine lv_iload_n hx hb dX3_hasPiece_0 rfl (lv_at hl 1 rfl) ?_
  refine lv_if_lt (tgt := 22) hx hb dX3_hasPiece_1 (by decide) (fun c_1 => ?_) (fun c_1 => ?_)
  · have hE := hE.trans (if_pos c_1)
    refine lv_iconst (v := 0) hx hb dX3_hasPiece_22 (by decide) ?_
    exact k_iret hx hb hr hlocks rfl hw hE rfl dX3_hasPiece_23
  · have hE := hE.trans (if_neg c_1)
    refine lv_iload_n hx hb dX3_hasPiece_4 rfl (lv_at hl 1 rfl) ?_
    refine lv_iconst (v := 4) hx hb dX3_hasPiece_5 (by decide) ?_
    refine lv_icmp_ge (tgt := 22) hx hb dX3_hasPiece_6 (by decide) (fun c_2 => ?_) (fun c_2 => ?_)
    · have hE := hE.trans (if_pos c_2)
      refine lv_iconst (v := 0) hx hb dX3_hasPiece_22 (by decide) ?_
      exact k_iret hx hb hr hlocks rfl hw hE rfl dX3_hasPiece_23
    · have hE := hE.trans (if_neg c_2)
      refine lv_aload_n hx hb dX3_hasPiece_9 rfl (lv_at hl 0 rfl) ?_
      refine k_get (C := RX3) (T := TX3) (N := 5) (v := .ref (ad 13 0)) hx hb hts inB_X3 hown hK hw (hL 2 0 rfl) cke_2 rfl 0 (by decide) (hts _ w_f_X3_9) (fun _ h9 => h9) rfl dX3_hasPiece_10 ?_
      refine lv_iload_n hx hb dX3_hasPiece_13 rfl (lv_at hl 1 rfl) ?_
      refine k_ald hx hb hK hw (hL 13 0 rfl) 0 cke_13 rfl (k_in c_1 c_2 (by decide)) dX3_hasPiece_14 ?_
      refine lv_if_le (tgt := 22) hx hb dX3_hasPiece_15 (by decide) (fun c_3 => ?_) (fun c_3 => ?_)
      · have hE := hE.trans (if_pos c_3)
        refine lv_iconst (v := 0) hx hb dX3_hasPiece_22 (by decide) ?_
        exact k_iret hx hb hr hlocks rfl hw hE rfl dX3_hasPiece_23
      · have hE := hE.trans (if_neg c_3)
        refine lv_iconst (v := 1) hx hb dX3_hasPiece_18 (by decide) ?_
        refine lv_goto (tgt := 23) hx hb dX3_hasPiece_19 (by decide) ?_
        exact k_iret hx hb hr hlocks rfl hw hE rfl dX3_hasPiece_23

theorem bz_X3_hasPiece (S : (Nat → Nat → Nat → Int32)) (p1 : Int32) : sp_X3_hasPiece S p1 = 0 ∨ sp_X3_hasPiece S p1 = 1 := by
  unfold sp_X3_hasPiece
  repeat' split
  all_goals first | exact Or.inl rfl | exact Or.inr rfl | exact bz_X5_has _ _ | exact bz_X5_isWithin _ _ _ | exact bz_X5_isOfKind _ _ | exact bz_X1_isIn _ _ _ _ | skip

theorem hp_in {S : (Nat → Nat → Nat → Int32)} {p : Int32} (h : ¬ sp_X3_hasPiece S p = 0) : vp_in p 4 := by
  unfold sp_X3_hasPiece at h
  by_cases c1 : p < 0
  · rw [if_pos c1] at h; exact absurd rfl h
  · rw [if_neg c1] at h
    by_cases c2 : 4 ≤ p
    · rw [if_pos c2] at h; exact absurd rfl h
    · exact k_in c1 c2 (by decide)

abbrev bw_X3_putIn : List Cond := .code yX3_putIn cX3_putIn 3 none :: BIG
abbrev rm_X3_putIn : Room := { frames := 0, cells := 0, slots := 0, locals := 0 }
noncomputable def rw_X3_putIn (S : (Nat → Nat → Nat → Int32)) (p1 : Int32) (p2 : Int32) : (Nat → Nat → Nat → Int32) := if p1 < 0 then (S) else (if 4 ≤ p1 then (S) else ((up3 S 13 0 p1.toNatClampNeg ((S 13 0 p1.toNatClampNeg) + p2))))
/-- sealed: it unfolds by un_ alone -/
noncomputable def sp_X3_putIn : (Nat → Nat → Nat → Int32) → Int32 → Int32 → ((Nat → Nat → Nat → Int32)) := Classical.choose (⟨rw_X3_putIn, rfl⟩ : ∃ f, f = rw_X3_putIn)
theorem un_X3_putIn (S : (Nat → Nat → Nat → Int32)) (p1 : Int32) (p2 : Int32) : sp_X3_putIn S p1 p2 = rw_X3_putIn S p1 p2 := (congrFun (congrFun (congrFun (Classical.choose_spec (⟨rw_X3_putIn, rfl⟩ : ∃ f, f = rw_X3_putIn)) S) p1) p2)
theorem sf_X3_putIn (S : (Nat → Nat → Nat → Int32)) (p1 : Int32) (p2 : Int32) : SF S (sp_X3_putIn S p1 p2) := by
  rw [un_X3_putIn]
  unfold rw_X3_putIn
  by_cases q_3 : p1 < 0
  · rw [if_pos q_3]
    exact (SF.rf _)
  · rw [if_neg q_3]
    by_cases q_4 : 4 ≤ p1
    · rw [if_pos q_4]
      exact (SF.rf _)
    · rw [if_neg q_4]
      exact (SF.up (by decide) (SF.rf _))

set_option maxHeartbeats 1000000 in
set_option maxRecDepth 100000 in
theorem ct_X3_putIn {l : Launch} {D : va_G} {cI cG cJ cO : ClassId} {K0 : Nat → Nat} {A : Nat → Prop} {L : List (Nat × Nat)} {ad : Nat → Nat → Nat} {ce : Nat → Nat → va_E} (hL : ∀ f o, cid f o = true → (f, o) ∈ L) (S : (Nat → Nat → Nat → Int32)) (hI : CI S) (p1 : Int32) (p2 : Int32) (sz : Nat) (hA : ∀ q, sz ≤ q → A q) : Met l yX3_putIn bw_X3_putIn rm_X3_putIn (kP D (ktys cI cG cJ cO) K0 A L ad (cK cI cJ ad ce S) sz [.ref (ad 2 0), .int p1, .int p2]) (kQv D A L ad (cK cI cJ ad ce (sp_X3_putIn S p1 p2))) 0 0 A := by
  refine Met.ofW (cc := cX3_putIn) (maxL := 3) (ret := none) (by decide) rfl ?_
  intro p e s m args below meth c s₁ B hml hv
  obtain ⟨hav, hsz, hP, hD, hK, hO⟩ := hv
  have hx := B.exec
  have hb := B.bytes
  have hr := B.returns
  have hts : ∀ w ∈ BIG, w.before args s = true := fun w h => atoms_spec (ws := bw_X3_putIn) B.pre w (List.mem_cons_of_mem _ h)
  have hown : s.vm.findClass RX3 = some m.cls := findClass_of_methodNamed B.named
  have hlocks := B.notSynchronized
  subst hsz
  have hw := wk.start hP hD
  refine k_start (by rfl) hav (Nat.le_of_ble_eq_true rfl) (fun ls hl => ?_)
  have hl : lv_has ls 3 [(0, .ref (ad 2 0)), (1, .int p1), (2, .int p2)] := hl
  have hE : sp_X3_putIn S p1 p2 = rw_X3_putIn S p1 p2 := un_X3_putIn S p1 p2
  refine lv_iload_n hx hb dX3_putIn_0 rfl (lv_at hl 1 rfl) ?_
  refine lv_if_lt (tgt := 19) hx hb dX3_putIn_1 (by decide) (fun c_1 => ?_) (fun c_1 => ?_)
  · have hE := hE.trans (if_pos c_1)
    exact k_vretE hx hb hr hlocks hw hE dX3_putIn_19
  · have hE := hE.trans (if_neg c_1)
    refine lv_iload_n hx hb dX3_putIn_4 rfl (lv_at hl 1 rfl) ?_
    refine lv_iconst (v := 4) hx hb dX3_putIn_5 (by decide) ?_
    refine lv_icmp_ge (tgt := 19) hx hb dX3_putIn_6 (by decide) (fun c_2 => ?_) (fun c_2 => ?_)
    · have hE := hE.trans (if_pos c_2)
      exact k_vretE hx hb hr hlocks hw hE dX3_putIn_19
    · have hE := hE.trans (if_neg c_2)
      refine lv_aload_n hx hb dX3_putIn_9 rfl (lv_at hl 0 rfl) ?_
      refine k_get (C := RX3) (T := TX3) (N := 5) (v := .ref (ad 13 0)) hx hb hts inB_X3 hown hK hw (hL 2 0 rfl) cke_2 rfl 0 (by decide) (hts _ w_f_X3_9) (fun _ h9 => h9) rfl dX3_putIn_10 ?_
      refine lv_iload_n hx hb dX3_putIn_13 rfl (lv_at hl 1 rfl) ?_
      refine lv_dup2_11 hx hb dX3_putIn_14 rfl rfl ?_
      refine k_ald hx hb hK hw (hL 13 0 rfl) 0 cke_13 rfl (k_in c_1 c_2 (by decide)) dX3_putIn_15 ?_
      refine lv_iload_n hx hb dX3_putIn_16 rfl (lv_at hl 2 rfl) ?_
      refine lv_iadd hx hb dX3_putIn_17 ?_
      refine k_ast hx hb hK hw (hL 13 0 rfl) 0 cke_13 rfl (k_in c_1 c_2 (by decide)) (cK_up (i := p1.toNatClampNeg) (x := ((S 13 0 p1.toNatClampNeg) + p2)) (by decide) rfl) dX3_putIn_18 (fun H locs hw => ?_)
      exact k_vretE hx hb hr hlocks hw hE dX3_putIn_19

abbrev bw_X3_takeOne : List Cond := .code yX3_takeOne cX3_takeOne 2 none :: BIG
abbrev rm_X3_takeOne : Room := { frames := 1, cells := 0, slots := 0, locals := 21 }
noncomputable def rw_X3_takeOne (S : (Nat → Nat → Nat → Int32)) (p1 : Int32) : (Nat → Nat → Nat → Int32) := if sp_X3_hasPiece S p1 = 0 then (S) else ((up3 S 13 0 p1.toNatClampNeg ((S 13 0 p1.toNatClampNeg) - 1)))
/-- sealed: it unfolds by un_ alone -/
noncomputable def sp_X3_takeOne : (Nat → Nat → Nat → Int32) → Int32 → ((Nat → Nat → Nat → Int32)) := Classical.choose (⟨rw_X3_takeOne, rfl⟩ : ∃ f, f = rw_X3_takeOne)
theorem un_X3_takeOne (S : (Nat → Nat → Nat → Int32)) (p1 : Int32) : sp_X3_takeOne S p1 = rw_X3_takeOne S p1 := (congrFun (congrFun (Classical.choose_spec (⟨rw_X3_takeOne, rfl⟩ : ∃ f, f = rw_X3_takeOne)) S) p1)
theorem sf_X3_takeOne (S : (Nat → Nat → Nat → Int32)) (p1 : Int32) : SF S (sp_X3_takeOne S p1) := by
  rw [un_X3_takeOne]
  unfold rw_X3_takeOne
  by_cases q_2 : sp_X3_hasPiece S p1 = 0
  · rw [if_pos q_2]
    exact (SF.rf _)
  · rw [if_neg q_2]
    exact (SF.up (by decide) (SF.rf _))

set_option maxHeartbeats 1000000 in
set_option maxRecDepth 100000 in
theorem ct_X3_takeOne {l : Launch} {D : va_G} {cI cG cJ cO : ClassId} {K0 : Nat → Nat} {A : Nat → Prop} {L : List (Nat × Nat)} {ad : Nat → Nat → Nat} {ce : Nat → Nat → va_E} (hL : ∀ f o, cid f o = true → (f, o) ∈ L) (S : (Nat → Nat → Nat → Int32)) (hI : CI S) (p1 : Int32) (sz : Nat) (hA : ∀ q, sz ≤ q → A q) : Met l yX3_takeOne bw_X3_takeOne rm_X3_takeOne (kP D (ktys cI cG cJ cO) K0 A L ad (cK cI cJ ad ce S) sz [.ref (ad 2 0), .int p1]) (kQv D A L ad (cK cI cJ ad ce (sp_X3_takeOne S p1))) 0 0 A := by
  refine Met.ofW (cc := cX3_takeOne) (maxL := 2) (ret := none) (by decide) rfl ?_
  intro p e s m args below meth c s₁ B hml hv
  obtain ⟨hav, hsz, hP, hD, hK, hO⟩ := hv
  have hx := B.exec
  have hb := B.bytes
  have hr := B.returns
  have hts : ∀ w ∈ BIG, w.before args s = true := fun w h => atoms_spec (ws := bw_X3_takeOne) B.pre w (List.mem_cons_of_mem _ h)
  have hown : s.vm.findClass RX3 = some m.cls := findClass_of_methodNamed B.named
  have hlocks := B.notSynchronized
  subst hsz
  have hw := wk.start hP hD
  refine k_start (by rfl) hav (Nat.le_of_ble_eq_true rfl) (fun ls hl => ?_)
  have hl : lv_has ls 2 [(0, .ref (ad 2 0)), (1, .int p1)] := hl
  have hE : sp_X3_takeOne S p1 = rw_X3_takeOne S p1 := un_X3_takeOne S p1
  refine lv_aload_n hx hb dX3_takeOne_0 rfl (lv_at hl 0 rfl) ?_
  refine lv_iload_n hx hb dX3_takeOne_1 rfl (lv_at hl 1 rfl) ?_
  refine k_ci0 hw (k_rV (As := [.int p1]) (rest := []) ⟨hx, hb, hml, hown, hts⟩ hK hO hw (ct_X3_hasPiece hL S (SF.ci (SF.rf _) hI) p1 _ (wk.hA hw hA)) (cwV 1 hts (gB_V w_ml_X3_24 w_im_X3_hasPiece w_se_X3_hasPiece w_in_X3 w_co_X3_hasPiece) rfl rfl rfl (by decide +kernel) ⟨by decide, by decide⟩) (hL 2 0 rfl) cke_2 rfl rfl hl.1 rfl (Nat.le_of_ble_eq_true rfl) dX3_takeOne_2 ⟨Nat.le_of_ble_eq_true rfl, Nat.le_of_ble_eq_true rfl⟩) (fun H locs hw => ?_)
  refine lv_if_eq (tgt := 18) hx hb dX3_takeOne_5 (by decide) (fun c_1 => ?_) (fun c_1 => ?_)
  · have hE := hE.trans (if_pos c_1)
    exact k_vretE hx hb hr hlocks hw hE dX3_takeOne_18
  · have hE := hE.trans (if_neg c_1)
    refine lv_aload_n hx hb dX3_takeOne_8 rfl (lv_at hl 0 rfl) ?_
    refine k_get (C := RX3) (T := TX3) (N := 5) (v := .ref (ad 13 0)) hx hb hts inB_X3 hown hK hw (hL 2 0 rfl) cke_2 rfl 0 (by decide) (hts _ w_f_X3_9) (fun _ h9 => h9) rfl dX3_takeOne_9 ?_
    refine lv_iload_n hx hb dX3_takeOne_12 rfl (lv_at hl 1 rfl) ?_
    refine lv_dup2_11 hx hb dX3_takeOne_13 rfl rfl ?_
    refine k_ald hx hb hK hw (hL 13 0 rfl) 0 cke_13 rfl (hp_in c_1) dX3_takeOne_14 ?_
    refine lv_iconst (v := 1) hx hb dX3_takeOne_15 (by decide) ?_
    refine lv_isub hx hb dX3_takeOne_16 ?_
    refine k_ast hx hb hK hw (hL 13 0 rfl) 0 cke_13 rfl (hp_in c_1) (cK_up (i := p1.toNatClampNeg) (x := ((S 13 0 p1.toNatClampNeg) - 1)) (by decide) rfl) dX3_takeOne_17 (fun H locs hw => ?_)
    exact k_vretE hx hb hr hlocks hw hE dX3_takeOne_18

abbrev bw_X3_addOrder : List Cond := .code yX3_addOrder cX3_addOrder 4 (some .int) :: BIG
abbrev rm_X3_addOrder : Room := { frames := 0, cells := 0, slots := 0, locals := 0 }
noncomputable def rw_X3_addOrder (S : (Nat → Nat → Nat → Int32)) (p1 : Int32) (p2 : Int32) (p3 : Int32) : Int32 × (Nat → Nat → Nat → Int32) := if S 2 0 0 < 20 then ((((up3 (up3 (up3 (up3 S 14 0 ((S 2 0 0).toNatClampNeg) p1) 15 0 ((S 2 0 0).toNatClampNeg) p2) 16 0 ((S 2 0 0).toNatClampNeg) p3) 2 0 0 ((S 2 0 0) + 1)) 2 0 0) - 1, (up3 (up3 (up3 (up3 S 14 0 ((S 2 0 0).toNatClampNeg) p1) 15 0 ((S 2 0 0).toNatClampNeg) p2) 16 0 ((S 2 0 0).toNatClampNeg) p3) 2 0 0 ((S 2 0 0) + 1)))) else (((-1), S))
/-- sealed: it unfolds by un_ alone -/
noncomputable def sp_X3_addOrder : (Nat → Nat → Nat → Int32) → Int32 → Int32 → Int32 → (Int32 × (Nat → Nat → Nat → Int32)) := Classical.choose (⟨rw_X3_addOrder, rfl⟩ : ∃ f, f = rw_X3_addOrder)
theorem un_X3_addOrder (S : (Nat → Nat → Nat → Int32)) (p1 : Int32) (p2 : Int32) (p3 : Int32) : sp_X3_addOrder S p1 p2 p3 = rw_X3_addOrder S p1 p2 p3 := (congrFun (congrFun (congrFun (congrFun (Classical.choose_spec (⟨rw_X3_addOrder, rfl⟩ : ∃ f, f = rw_X3_addOrder)) S) p1) p2) p3)
set_option maxHeartbeats 1000000 in
set_option maxRecDepth 100000 in
theorem ct_X3_addOrder {l : Launch} {D : va_G} {cI cG cJ cO : ClassId} {K0 : Nat → Nat} {A : Nat → Prop} {L : List (Nat × Nat)} {ad : Nat → Nat → Nat} {ce : Nat → Nat → va_E} (hL : ∀ f o, cid f o = true → (f, o) ∈ L) (S : (Nat → Nat → Nat → Int32)) (hI : CI S) (p1 : Int32) (p2 : Int32) (p3 : Int32) (sz : Nat) (hA : ∀ q, sz ≤ q → A q) : Met l yX3_addOrder bw_X3_addOrder rm_X3_addOrder (kP D (ktys cI cG cJ cO) K0 A L ad (cK cI cJ ad ce S) sz [.ref (ad 2 0), .int p1, .int p2, .int p3]) (kQi D A (sp_X3_addOrder S p1 p2 p3).1 L ad (cK cI cJ ad ce (sp_X3_addOrder S p1 p2 p3).2)) 0 0 A := by
  refine Met.ofW (cc := cX3_addOrder) (maxL := 4) (ret := (some .int)) (by decide) rfl ?_
  intro p e s m args below meth c s₁ B hml hv
  obtain ⟨hav, hsz, hP, hD, hK, hO⟩ := hv
  have hx := B.exec
  have hb := B.bytes
  have hr := B.returns
  have hts : ∀ w ∈ BIG, w.before args s = true := fun w h => atoms_spec (ws := bw_X3_addOrder) B.pre w (List.mem_cons_of_mem _ h)
  have hown : s.vm.findClass RX3 = some m.cls := findClass_of_methodNamed B.named
  have hlocks := B.notSynchronized
  subst hsz
  have hw := wk.start hP hD
  refine k_start (by rfl) hav (Nat.le_of_ble_eq_true rfl) (fun ls hl => ?_)
  have hl : lv_has ls 4 [(0, .ref (ad 2 0)), (1, .int p1), (2, .int p2), (3, .int p3)] := hl
  have hE : sp_X3_addOrder S p1 p2 p3 = rw_X3_addOrder S p1 p2 p3 := un_X3_addOrder S p1 p2 p3
  refine lv_aload_n hx hb dX3_addOrder_0 rfl (lv_at hl 0 rfl) ?_
  refine k_get (C := RX3) (T := TX3) (N := 5) (v := .int (S 2 0 0)) hx hb hts inB_X3 hown hK hw (hL 2 0 rfl) cke_2 rfl 4 (by decide) (hts _ w_f_X3_28) (fun _ h9 => h9) rfl dX3_addOrder_1 ?_
  refine lv_bipush (v := 20) hx hb dX3_addOrder_4 (by decide) ?_
  refine lv_icmp_lt (tgt := 11) hx hb dX3_addOrder_6 (by decide) (fun c_1 => ?_) (fun c_1 => ?_)
  · have hE := hE.trans (if_pos c_1)
    refine lv_aload_n hx hb dX3_addOrder_11 rfl (lv_at hl 0 rfl) ?_
    refine k_get (C := RX3) (T := TX3) (N := 5) (v := .ref (ad 14 0)) hx hb hts inB_X3 hown hK hw (hL 2 0 rfl) cke_2 rfl 1 (by decide) (hts _ w_f_X3_15) (fun _ h9 => h9) rfl dX3_addOrder_12 ?_
    refine lv_aload_n hx hb dX3_addOrder_15 rfl (lv_at hl 0 rfl) ?_
    refine k_get (C := RX3) (T := TX3) (N := 5) (v := .int (S 2 0 0)) hx hb hts inB_X3 hown hK hw (hL 2 0 rfl) cke_2 rfl 4 (by decide) (hts _ w_f_X3_28) (fun _ h9 => h9) rfl dX3_addOrder_16 ?_
    refine lv_iload_n hx hb dX3_addOrder_19 rfl (lv_at hl 1 rfl) ?_
    refine k_ast hx hb hK hw (hL 14 0 rfl) 0 cke_14 rfl (CI.in3 hI (lt_nle c_1)) (cK_up (i := ((S 2 0 0).toNatClampNeg)) (x := p1) (by decide) rfl) dX3_addOrder_20 (fun H locs hw => ?_)
    refine lv_aload_n hx hb dX3_addOrder_21 rfl (lv_at hl 0 rfl) ?_
    refine k_get (C := RX3) (T := TX3) (N := 5) (v := .ref (ad 15 0)) hx hb hts inB_X3 hown hK hw (hL 2 0 rfl) cke_2 rfl 2 (by decide) (hts _ w_f_X3_18) (fun _ h9 => h9) rfl dX3_addOrder_22 ?_
    refine lv_aload_n hx hb dX3_addOrder_25 rfl (lv_at hl 0 rfl) ?_
    refine k_get (C := RX3) (T := TX3) (N := 5) (v := .int (S 2 0 0)) hx hb hts inB_X3 hown hK hw (hL 2 0 rfl) cke_2 rfl 4 (by decide) (hts _ w_f_X3_28) (fun _ h9 => h9) rfl dX3_addOrder_26 ?_
    refine lv_iload_n hx hb dX3_addOrder_29 rfl (lv_at hl 2 rfl) ?_
    refine k_ast hx hb hK hw (hL 15 0 rfl) 0 cke_15 rfl (CI.in3 hI (lt_nle c_1)) (cK_up (i := ((S 2 0 0).toNatClampNeg)) (x := p2) (by decide) rfl) dX3_addOrder_30 (fun H locs hw => ?_)
    refine lv_aload_n hx hb dX3_addOrder_31 rfl (lv_at hl 0 rfl) ?_
    refine k_get (C := RX3) (T := TX3) (N := 5) (v := .ref (ad 16 0)) hx hb hts inB_X3 hown hK hw (hL 2 0 rfl) cke_2 rfl 3 (by decide) (hts _ w_f_X3_21) (fun _ h9 => h9) rfl dX3_addOrder_32 ?_
    refine lv_aload_n hx hb dX3_addOrder_35 rfl (lv_at hl 0 rfl) ?_
    refine k_get (C := RX3) (T := TX3) (N := 5) (v := .int (S 2 0 0)) hx hb hts inB_X3 hown hK hw (hL 2 0 rfl) cke_2 rfl 4 (by decide) (hts _ w_f_X3_28) (fun _ h9 => h9) rfl dX3_addOrder_36 ?_
    refine lv_iload_n hx hb dX3_addOrder_39 rfl (lv_at hl 3 rfl) ?_
    refine k_ast hx hb hK hw (hL 16 0 rfl) 0 cke_16 rfl (CI.in3 hI (lt_nle c_1)) (cK_up (i := ((S 2 0 0).toNatClampNeg)) (x := p3) (by decide) rfl) dX3_addOrder_40 (fun H locs hw => ?_)
    refine lv_aload_n hx hb dX3_addOrder_41 rfl (lv_at hl 0 rfl) ?_
    refine lv_dup hx hb dX3_addOrder_42 rfl ?_
    refine k_get (C := RX3) (T := TX3) (N := 5) (v := .int (S 2 0 0)) hx hb hts inB_X3 hown hK hw (hL 2 0 rfl) cke_2 rfl 4 (by decide) (hts _ w_f_X3_28) (fun _ h9 => h9) rfl dX3_addOrder_43 ?_
    refine lv_iconst (v := 1) hx hb dX3_addOrder_46 (by decide) ?_
    refine lv_iadd hx hb dX3_addOrder_47 ?_
    refine k_put (C := RX3) (T := TX3) (N := 5) (v := .int ((S 2 0 0) + 1)) (ty := .int) hx hb hts inB_X3 tyX3 tyX3_ok nmX3 hown hK hw (hL 2 0 rfl) cke_2 rfl 4 (by decide) (hts _ w_f_X3_28) (fun _ h9 => h9) rfl (by decide +kernel) rfl rfl (Nat.le_of_ble_eq_true rfl) (cK_up (i := 0) (x := ((S 2 0 0) + 1)) (by decide) rfl) dX3_addOrder_48 (fun H locs hw => ?_)
    refine lv_aload_n hx hb dX3_addOrder_51 rfl (lv_at hl 0 rfl) ?_
    refine k_get (C := RX3) (T := TX3) (N := 5) (v := .int ((up3 (up3 (up3 (up3 S 14 0 ((S 2 0 0).toNatClampNeg) p1) 15 0 ((S 2 0 0).toNatClampNeg) p2) 16 0 ((S 2 0 0).toNatClampNeg) p3) 2 0 0 ((S 2 0 0) + 1)) 2 0 0)) hx hb hts inB_X3 hown hK hw (hL 2 0 rfl) cke_2 rfl 4 (by decide) (hts _ w_f_X3_28) (fun _ h9 => h9) rfl dX3_addOrder_52 ?_
    refine lv_iconst (v := 1) hx hb dX3_addOrder_55 (by decide) ?_
    refine lv_isub hx hb dX3_addOrder_56 ?_
    exact k_iretE hx hb hr hlocks rfl hw hE dX3_addOrder_57
  · have hE := hE.trans (if_neg c_1)
    refine lv_iconst (v := (-1)) hx hb dX3_addOrder_9 (by decide) ?_
    exact k_iretE hx hb hr hlocks rfl hw hE dX3_addOrder_10

theorem ci_X3_addOrder (S : (Nat → Nat → Nat → Int32)) (p1 : Int32) (p2 : Int32) (p3 : Int32) (h : CI S) : CI (sp_X3_addOrder S p1 p2 p3).2 := by
  rw [un_X3_addOrder]
  unfold rw_X3_addOrder
  by_cases c0 : S 2 0 0 < 20
  · rw [if_pos c0]
    have c := lt_nle c0
    exact ⟨h.1, h.2.1, inc_le h.2.2.1.1 rfl (by decide) c, h.2.2.2⟩
  · rw [if_neg c0]; exact h

abbrev bw_X3_receive : List Cond := .code yX3_receive cX3_receive 3 none :: BIG
abbrev rm_X3_receive : Room := { frames := 1, cells := 0, slots := 0, locals := 22 }
noncomputable def lp_X3_receive_2 (p1 : Int32) : Nat → Nat → (Nat → Nat → Nat → Int32) → (Nat → Nat → Nat → Int32)
  | 0, i, Sx => (Sx)
  | k + 1, i, Sx => if Sx 16 0 i = p1 then (lp_X3_receive_2 p1 k (i + 1) (sp_X3_putIn Sx (Sx 14 0 i) (Sx 15 0 i))) else (lp_X3_receive_2 p1 k (i + 1) Sx)
theorem lz_lp_X3_receive_2 (p1 : Int32) (i : Nat) (Sx : (Nat → Nat → Nat → Int32)) : lp_X3_receive_2 p1 0 i Sx = (Sx) := rfl
theorem sfl_lp_X3_receive_2 (p1 : Int32) : ∀ (k i : Nat) (Sx T : (Nat → Nat → Nat → Int32)), SF T Sx → SF T ((lp_X3_receive_2 p1 k i Sx)) := by
  intro k
  induction k with
  | zero => intro i Sx T h; exact h
  | succ k ih => 
    intro i Sx T h
    unfold lp_X3_receive_2
    by_cases q_2 : Sx 16 0 i = p1
    · rw [if_pos q_2]
      exact ih (i + 1) (sp_X3_putIn Sx (Sx 14 0 i) (Sx 15 0 i)) T (SF.tr h (sf_X3_putIn Sx (Sx 14 0 i) (Sx 15 0 i)))
    · rw [if_neg q_2]
      exact ih (i + 1) Sx T h

noncomputable def rw_X3_receive (S : (Nat → Nat → Nat → Int32)) (p1 : Int32) : (Nat → Nat → Nat → Int32) := (lp_X3_receive_2 p1 ((S 2 0 0).toNatClampNeg) 0 S)
/-- sealed: it unfolds by un_ alone -/
noncomputable def sp_X3_receive : (Nat → Nat → Nat → Int32) → Int32 → ((Nat → Nat → Nat → Int32)) := Classical.choose (⟨rw_X3_receive, rfl⟩ : ∃ f, f = rw_X3_receive)
theorem un_X3_receive (S : (Nat → Nat → Nat → Int32)) (p1 : Int32) : sp_X3_receive S p1 = rw_X3_receive S p1 := (congrFun (congrFun (Classical.choose_spec (⟨rw_X3_receive, rfl⟩ : ∃ f, f = rw_X3_receive)) S) p1)
theorem sf_X3_receive (S : (Nat → Nat → Nat → Int32)) (p1 : Int32) : SF S (sp_X3_receive S p1) := by
  rw [un_X3_receive]
  unfold rw_X3_receive
  exact (sfl_lp_X3_receive_2 p1 ((S 2 0 0).toNatClampNeg) 0 S _ (SF.rf _))

set_option maxHeartbeats 1000000 in
set_option maxRecDepth 100000 in
theorem ct_X3_receive {l : Launch} {D : va_G} {cI cG cJ cO : ClassId} {K0 : Nat → Nat} {A : Nat → Prop} {L : List (Nat × Nat)} {ad : Nat → Nat → Nat} {ce : Nat → Nat → va_E} (hL : ∀ f o, cid f o = true → (f, o) ∈ L) (S : (Nat → Nat → Nat → Int32)) (hI : CI S) (p1 : Int32) (sz : Nat) (hA : ∀ q, sz ≤ q → A q) : Met l yX3_receive bw_X3_receive rm_X3_receive (kP D (ktys cI cG cJ cO) K0 A L ad (cK cI cJ ad ce S) sz [.ref (ad 2 0), .int p1]) (kQv D A L ad (cK cI cJ ad ce (sp_X3_receive S p1))) 0 0 A := by
  refine Met.ofW (cc := cX3_receive) (maxL := 3) (ret := none) (by decide) rfl ?_
  intro p e s m args below meth c s₁ B hml hv
  obtain ⟨hav, hsz, hP, hD, hK, hO⟩ := hv
  have hx := B.exec
  have hb := B.bytes
  have hr := B.returns
  have hts : ∀ w ∈ BIG, w.before args s = true := fun w h => atoms_spec (ws := bw_X3_receive) B.pre w (List.mem_cons_of_mem _ h)
  have hown : s.vm.findClass RX3 = some m.cls := findClass_of_methodNamed B.named
  have hlocks := B.notSynchronized
  subst hsz
  have hw := wk.start hP hD
  refine k_start (by rfl) hav (Nat.le_of_ble_eq_true rfl) (fun ls hl => ?_)
  have hl : lv_has ls 3 [(0, .ref (ad 2 0)), (1, .int p1)] := hl
  have hE : sp_X3_receive S p1 = (lp_X3_receive_2 p1 ((S 2 0 0).toNatClampNeg) 0 S) := un_X3_receive S p1
  refine lv_iconst (v := 0) hx hb dX3_receive_0 (by decide) ?_
  refine lv_istore_n (lv' := [(2, .int 0), (0, .ref (ad 2 0)), (1, .int p1)]) hx hb dX3_receive_1 rfl hl (by decide) rfl (fun ls hl => ?_)
  have key_2 : ∀ (k i : Nat) (Sx : (Nat → Nat → Nat → Int32)) (H : Heap) (locs : List Loc) (ls : Array Slot), i + k = (S 2 0 0).toNatClampNeg → SF S Sx → (lp_X3_receive_2 p1 ((S 2 0 0).toNatClampNeg) 0 S) = lp_X3_receive_2 p1 k i Sx → wk D A L ad (cK cI cJ ad ce Sx) s.heap H locs → lv_has ls 3 [(0, .ref (ad 2 0)), (1, .int p1), (2, .int (nI i))] → W p l e (headSpec bw_X3_receive rm_X3_receive).room s m args below meth c H locs 0 0 (MQ below (kQv D A L ad (cK cI cJ ad ce (sp_X3_receive S p1))) args s 0 0 A) (F0 m 2 ls []) := by
    intro k
    induction k with
    | zero =>
      intro i Sx H locs ls hk hsf hV hw hl
      have hV := hV.trans (lz_lp_X3_receive_2 p1 i Sx)
      subst hV
      refine lv_iload_n hx hb dX3_receive_2 rfl (lv_at hl 2 rfl) ?_
      refine lv_aload_n hx hb dX3_receive_3 rfl (lv_at hl 0 rfl) ?_
      refine k_get (C := RX3) (T := TX3) (N := 5) (v := .int ((lp_X3_receive_2 p1 ((S 2 0 0).toNatClampNeg) 0 S) 2 0 0)) hx hb hts inB_X3 hown hK hw (hL 2 0 rfl) cke_2 rfl 4 (by decide) (hts _ w_f_X3_28) (fun _ h9 => h9) rfl dX3_receive_4 ?_
      refine lv_icmp_ge (tgt := 42) hx hb dX3_receive_7 (by decide) (fun _ => ?_) (fun h => absurd (lp_o (SF.b3 hsf hI) hk (cn_lt _)) h)
      exact k_vretE hx hb hr hlocks hw hE dX3_receive_42
    | succ k ih =>
      intro i Sx H locs ls hk hsf hV hw hl
      refine lv_iload_n hx hb dX3_receive_2 rfl (lv_at hl 2 rfl) ?_
      refine lv_aload_n hx hb dX3_receive_3 rfl (lv_at hl 0 rfl) ?_
      refine k_get (C := RX3) (T := TX3) (N := 5) (v := .int (Sx 2 0 0)) hx hb hts inB_X3 hown hK hw (hL 2 0 rfl) cke_2 rfl 4 (by decide) (hts _ w_f_X3_28) (fun _ h9 => h9) rfl dX3_receive_4 ?_
      refine lv_icmp_ge (tgt := 42) hx hb dX3_receive_7 (by decide) (fun h => absurd h (lp_i (SF.b3 hsf hI) hk (cn_lt _))) (fun _ => ?_)
      refine lv_aload_n hx hb dX3_receive_10 rfl (lv_at hl 0 rfl) ?_
      refine k_get (C := RX3) (T := TX3) (N := 5) (v := .ref (ad 16 0)) hx hb hts inB_X3 hown hK hw (hL 2 0 rfl) cke_2 rfl 3 (by decide) (hts _ w_f_X3_21) (fun _ h9 => h9) rfl dX3_receive_11 ?_
      refine lv_iload_n hx hb dX3_receive_14 rfl (lv_at hl 2 rfl) ?_
      refine k_aldn hx hb hK hw (hL 16 0 rfl) 0 cke_16 rfl (Nat.lt_of_lt_of_le (lp_l hk) (CI.n3 hI)) (by decide) dX3_receive_15 ?_
      refine lv_iload_n hx hb dX3_receive_16 rfl (lv_at hl 1 rfl) ?_
      refine lv_icmp_ne (tgt := 36) hx hb dX3_receive_17 (by decide) (fun c_1 => ?_) (fun c_1 => ?_)
      · have hV := hV.trans (if_neg c_1)
        refine lv_iinc (v := (nI (i + 1))) (lv' := [(2, .int (nI (i + 1))), (0, .ref (ad 2 0)), (1, .int p1)]) hx hb dX3_receive_36 hl (k := 2) rfl (nI_1 _) (by decide) rfl (fun ls hl => ?_)
        refine lv_goto (tgt := 2) hx hb dX3_receive_39 (by decide) ?_
        exact ih (i + 1) Sx _ _ _ (lp_s hk) hsf hV hw (lv_sub hl [1, 2, 0] rfl)
      · have hV := hV.trans (if_pos c_1)
        refine lv_aload_n hx hb dX3_receive_20 rfl (lv_at hl 0 rfl) ?_
        refine lv_aload_n hx hb dX3_receive_21 rfl (lv_at hl 0 rfl) ?_
        refine k_get (C := RX3) (T := TX3) (N := 5) (v := .ref (ad 14 0)) hx hb hts inB_X3 hown hK hw (hL 2 0 rfl) cke_2 rfl 1 (by decide) (hts _ w_f_X3_15) (fun _ h9 => h9) rfl dX3_receive_22 ?_
        refine lv_iload_n hx hb dX3_receive_25 rfl (lv_at hl 2 rfl) ?_
        refine k_aldn hx hb hK hw (hL 14 0 rfl) 0 cke_14 rfl (Nat.lt_of_lt_of_le (lp_l hk) (CI.n3 hI)) (by decide) dX3_receive_26 ?_
        refine lv_aload_n hx hb dX3_receive_27 rfl (lv_at hl 0 rfl) ?_
        refine k_get (C := RX3) (T := TX3) (N := 5) (v := .ref (ad 15 0)) hx hb hts inB_X3 hown hK hw (hL 2 0 rfl) cke_2 rfl 2 (by decide) (hts _ w_f_X3_18) (fun _ h9 => h9) rfl dX3_receive_28 ?_
        refine lv_iload_n hx hb dX3_receive_31 rfl (lv_at hl 2 rfl) ?_
        refine k_aldn hx hb hK hw (hL 15 0 rfl) 0 cke_15 rfl (Nat.lt_of_lt_of_le (lp_l hk) (CI.n3 hI)) (by decide) dX3_receive_32 ?_
        refine k_cv0 hw (k_rV (As := [.int (Sx 14 0 i), .int (Sx 15 0 i)]) (rest := []) ⟨hx, hb, hml, hown, hts⟩ hK hO hw (ct_X3_putIn hL Sx (SF.ci hsf hI) (Sx 14 0 i) (Sx 15 0 i) _ (wk.hA hw hA)) (cwV 2 hts (gB_V w_ml_X3_32 w_im_X3_putIn w_se_X3_putIn w_in_X3 w_co_X3_putIn) rfl rfl rfl (by decide +kernel) ⟨by decide, by decide⟩) (hL 2 0 rfl) cke_2 rfl rfl hl.1 rfl (Nat.le_of_ble_eq_true rfl) dX3_receive_33 ⟨Nat.le_of_ble_eq_true rfl, Nat.le_of_ble_eq_true rfl⟩) (fun H locs hw => ?_)
        refine lv_iinc (v := (nI (i + 1))) (lv' := [(2, .int (nI (i + 1))), (0, .ref (ad 2 0)), (1, .int p1)]) hx hb dX3_receive_36 hl (k := 2) rfl (nI_1 _) (by decide) rfl (fun ls hl => ?_)
        refine lv_goto (tgt := 2) hx hb dX3_receive_39 (by decide) ?_
        exact ih (i + 1) (sp_X3_putIn Sx (Sx 14 0 i) (Sx 15 0 i)) _ _ _ (lp_s hk) (SF.tr hsf (sf_X3_putIn Sx (Sx 14 0 i) (Sx 15 0 i))) hV hw (lv_sub hl [1, 2, 0] rfl)
  exact key_2 ((S 2 0 0).toNatClampNeg) 0 S _ _ _ (Nat.zero_add _) (SF.rf _) rfl hw (lv_sub hl [1, 2, 0] rfl)

abbrev bw_X3_piecesToCome : List Cond := .code yX3_piecesToCome cX3_piecesToCome 5 (some .int) :: BIG
abbrev rm_X3_piecesToCome : Room := { frames := 0, cells := 0, slots := 0, locals := 0 }
noncomputable def lp_X3_piecesToCome_5 (S : (Nat → Nat → Nat → Int32)) (p1 : Int32) (p2 : Int32) : Nat → Nat → Int32 → Int32
  | 0, i, v3 => (v3)
  | k + 1, i, v3 => if S 14 0 i = p1 then (if S 16 0 i ≤ p2 then (lp_X3_piecesToCome_5 S p1 p2 k (i + 1) v3) else (lp_X3_piecesToCome_5 S p1 p2 k (i + 1) (v3 + (S 15 0 i)))) else (lp_X3_piecesToCome_5 S p1 p2 k (i + 1) v3)
theorem lz_lp_X3_piecesToCome_5 (S : (Nat → Nat → Nat → Int32)) (p1 : Int32) (p2 : Int32) (i : Nat) (v3 : Int32) : lp_X3_piecesToCome_5 S p1 p2 0 i v3 = (v3) := rfl
noncomputable def sp_X3_piecesToCome (S : (Nat → Nat → Nat → Int32)) (p1 : Int32) (p2 : Int32) : Int32 := (lp_X3_piecesToCome_5 S p1 p2 ((S 2 0 0).toNatClampNeg) 0 0)
set_option maxHeartbeats 1000000 in
set_option maxRecDepth 100000 in
theorem ct_X3_piecesToCome {l : Launch} {D : va_G} {cI cG cJ cO : ClassId} {K0 : Nat → Nat} {A : Nat → Prop} {L : List (Nat × Nat)} {ad : Nat → Nat → Nat} {ce : Nat → Nat → va_E} (hL : ∀ f o, cid f o = true → (f, o) ∈ L) (S : (Nat → Nat → Nat → Int32)) (hI : CI S) (p1 : Int32) (p2 : Int32) (sz : Nat) (hA : ∀ q, sz ≤ q → A q) : Met l yX3_piecesToCome bw_X3_piecesToCome rm_X3_piecesToCome (kP D (ktys cI cG cJ cO) K0 A L ad (cK cI cJ ad ce S) sz [.ref (ad 2 0), .int p1, .int p2]) (kQi D A (sp_X3_piecesToCome S p1 p2) L ad (cK cI cJ ad ce S)) 0 0 A := by
  refine Met.ofW (cc := cX3_piecesToCome) (maxL := 5) (ret := (some .int)) (by decide) rfl ?_
  intro p e s m args below meth c s₁ B hml hv
  obtain ⟨hav, hsz, hP, hD, hK, hO⟩ := hv
  have hx := B.exec
  have hb := B.bytes
  have hr := B.returns
  have hts : ∀ w ∈ BIG, w.before args s = true := fun w h => atoms_spec (ws := bw_X3_piecesToCome) B.pre w (List.mem_cons_of_mem _ h)
  have hown : s.vm.findClass RX3 = some m.cls := findClass_of_methodNamed B.named
  have hlocks := B.notSynchronized
  subst hsz
  have hw := wk.start hP hD
  refine k_start (by rfl) hav (Nat.le_of_ble_eq_true rfl) (fun ls hl => ?_)
  have hl : lv_has ls 5 [(0, .ref (ad 2 0)), (1, .int p1), (2, .int p2)] := hl
  have hE : sp_X3_piecesToCome S p1 p2 = (lp_X3_piecesToCome_5 S p1 p2 ((S 2 0 0).toNatClampNeg) 0 0) := by unfold sp_X3_piecesToCome; rfl
  refine lv_iconst (v := 0) hx hb dX3_piecesToCome_0 (by decide) ?_
  refine lv_istore_n (lv' := [(3, .int 0), (0, .ref (ad 2 0)), (1, .int p1), (2, .int p2)]) hx hb dX3_piecesToCome_1 rfl hl (by decide) rfl (fun ls hl => ?_)
  refine lv_iconst (v := 0) hx hb dX3_piecesToCome_2 (by decide) ?_
  refine lv_istore (lv' := [(4, .int 0), (3, .int 0), (0, .ref (ad 2 0)), (1, .int p1), (2, .int p2)]) hx hb dX3_piecesToCome_3 hl (by decide) rfl (fun ls hl => ?_)
  have key_5 : ∀ (k i : Nat) (v3 : Int32) (H : Heap) (locs : List Loc) (ls : Array Slot), i + k = (S 2 0 0).toNatClampNeg → (lp_X3_piecesToCome_5 S p1 p2 ((S 2 0 0).toNatClampNeg) 0 0) = lp_X3_piecesToCome_5 S p1 p2 k i v3 → wk D A L ad (cK cI cJ ad ce S) s.heap H locs → lv_has ls 5 [(0, .ref (ad 2 0)), (1, .int p1), (2, .int p2), (3, .int v3), (4, .int (nI i))] → W p l e (headSpec bw_X3_piecesToCome rm_X3_piecesToCome).room s m args below meth c H locs 0 0 (MQ below (kQi D A (sp_X3_piecesToCome S p1 p2) L ad (cK cI cJ ad ce S)) args s 0 0 A) (F0 m 5 ls []) := by
    intro k
    induction k with
    | zero =>
      intro i v3 H locs ls hk hV hw hl
      have hV := hV.trans (lz_lp_X3_piecesToCome_5 S p1 p2 i v3)
      obtain rfl : v3 = (lp_X3_piecesToCome_5 S p1 p2 ((S 2 0 0).toNatClampNeg) 0 0) := hV.symm
      refine lv_iload hx hb dX3_piecesToCome_5 (lv_at hl 4 rfl) ?_
      refine lv_aload_n hx hb dX3_piecesToCome_7 rfl (lv_at hl 0 rfl) ?_
      refine k_get (C := RX3) (T := TX3) (N := 5) (v := .int (S 2 0 0)) hx hb hts inB_X3 hown hK hw (hL 2 0 rfl) cke_2 rfl 4 (by decide) (hts _ w_f_X3_28) (fun _ h9 => h9) rfl dX3_piecesToCome_8 ?_
      refine lv_icmp_ge (tgt := 52) hx hb dX3_piecesToCome_11 (by decide) (fun _ => ?_) (fun h => absurd (lp_o (SF.b3 (SF.rf _) hI) hk (cn_lt _)) h)
      refine lv_iload_n hx hb dX3_piecesToCome_52 rfl (lv_at hl 3 rfl) ?_
      exact k_iret hx hb hr hlocks rfl hw hE rfl dX3_piecesToCome_53
    | succ k ih =>
      intro i v3 H locs ls hk hV hw hl
      refine lv_iload hx hb dX3_piecesToCome_5 (lv_at hl 4 rfl) ?_
      refine lv_aload_n hx hb dX3_piecesToCome_7 rfl (lv_at hl 0 rfl) ?_
      refine k_get (C := RX3) (T := TX3) (N := 5) (v := .int (S 2 0 0)) hx hb hts inB_X3 hown hK hw (hL 2 0 rfl) cke_2 rfl 4 (by decide) (hts _ w_f_X3_28) (fun _ h9 => h9) rfl dX3_piecesToCome_8 ?_
      refine lv_icmp_ge (tgt := 52) hx hb dX3_piecesToCome_11 (by decide) (fun h => absurd h (lp_i (SF.b3 (SF.rf _) hI) hk (cn_lt _))) (fun _ => ?_)
      refine lv_aload_n hx hb dX3_piecesToCome_14 rfl (lv_at hl 0 rfl) ?_
      refine k_get (C := RX3) (T := TX3) (N := 5) (v := .ref (ad 14 0)) hx hb hts inB_X3 hown hK hw (hL 2 0 rfl) cke_2 rfl 1 (by decide) (hts _ w_f_X3_15) (fun _ h9 => h9) rfl dX3_piecesToCome_15 ?_
      refine lv_iload hx hb dX3_piecesToCome_18 (lv_at hl 4 rfl) ?_
      refine k_aldn hx hb hK hw (hL 14 0 rfl) 0 cke_14 rfl (Nat.lt_of_lt_of_le (lp_l hk) (CI.n3 hI)) (by decide) dX3_piecesToCome_20 ?_
      refine lv_iload_n hx hb dX3_piecesToCome_21 rfl (lv_at hl 1 rfl) ?_
      refine lv_icmp_ne (tgt := 46) hx hb dX3_piecesToCome_22 (by decide) (fun c_1 => ?_) (fun c_1 => ?_)
      · have hV := hV.trans (if_neg c_1)
        refine lv_iinc (v := (nI (i + 1))) (lv' := [(4, .int (nI (i + 1))), (0, .ref (ad 2 0)), (1, .int p1), (2, .int p2), (3, .int v3)]) hx hb dX3_piecesToCome_46 hl (k := 4) rfl (nI_1 _) (by decide) rfl (fun ls hl => ?_)
        refine lv_goto (tgt := 5) hx hb dX3_piecesToCome_49 (by decide) ?_
        exact ih (i + 1) v3 _ _ _ (lp_s hk) hV hw (lv_sub hl [1, 2, 3, 4, 0] rfl)
      · have hV := hV.trans (if_pos c_1)
        refine lv_aload_n hx hb dX3_piecesToCome_25 rfl (lv_at hl 0 rfl) ?_
        refine k_get (C := RX3) (T := TX3) (N := 5) (v := .ref (ad 16 0)) hx hb hts inB_X3 hown hK hw (hL 2 0 rfl) cke_2 rfl 3 (by decide) (hts _ w_f_X3_21) (fun _ h9 => h9) rfl dX3_piecesToCome_26 ?_
        refine lv_iload hx hb dX3_piecesToCome_29 (lv_at hl 4 rfl) ?_
        refine k_aldn hx hb hK hw (hL 16 0 rfl) 0 cke_16 rfl (Nat.lt_of_lt_of_le (lp_l hk) (CI.n3 hI)) (by decide) dX3_piecesToCome_31 ?_
        refine lv_iload_n hx hb dX3_piecesToCome_32 rfl (lv_at hl 2 rfl) ?_
        refine lv_icmp_le (tgt := 46) hx hb dX3_piecesToCome_33 (by decide) (fun c_2 => ?_) (fun c_2 => ?_)
        · have hV := hV.trans (if_pos c_2)
          refine lv_iinc (v := (nI (i + 1))) (lv' := [(4, .int (nI (i + 1))), (0, .ref (ad 2 0)), (1, .int p1), (2, .int p2), (3, .int v3)]) hx hb dX3_piecesToCome_46 hl (k := 4) rfl (nI_1 _) (by decide) rfl (fun ls hl => ?_)
          refine lv_goto (tgt := 5) hx hb dX3_piecesToCome_49 (by decide) ?_
          exact ih (i + 1) v3 _ _ _ (lp_s hk) hV hw (lv_sub hl [1, 2, 3, 4, 0] rfl)
        · have hV := hV.trans (if_neg c_2)
          refine lv_iload_n hx hb dX3_piecesToCome_36 rfl (lv_at hl 3 rfl) ?_
          refine lv_aload_n hx hb dX3_piecesToCome_37 rfl (lv_at hl 0 rfl) ?_
          refine k_get (C := RX3) (T := TX3) (N := 5) (v := .ref (ad 15 0)) hx hb hts inB_X3 hown hK hw (hL 2 0 rfl) cke_2 rfl 2 (by decide) (hts _ w_f_X3_18) (fun _ h9 => h9) rfl dX3_piecesToCome_38 ?_
          refine lv_iload hx hb dX3_piecesToCome_41 (lv_at hl 4 rfl) ?_
          refine k_aldn hx hb hK hw (hL 15 0 rfl) 0 cke_15 rfl (Nat.lt_of_lt_of_le (lp_l hk) (CI.n3 hI)) (by decide) dX3_piecesToCome_43 ?_
          refine lv_iadd hx hb dX3_piecesToCome_44 ?_
          refine lv_istore_n (lv' := [(3, .int (v3 + (S 15 0 i))), (0, .ref (ad 2 0)), (1, .int p1), (2, .int p2), (4, .int (nI i))]) hx hb dX3_piecesToCome_45 rfl hl (by decide) rfl (fun ls hl => ?_)
          refine lv_iinc (v := (nI (i + 1))) (lv' := [(4, .int (nI (i + 1))), (3, .int (v3 + (S 15 0 i))), (0, .ref (ad 2 0)), (1, .int p1), (2, .int p2)]) hx hb dX3_piecesToCome_46 hl (k := 4) rfl (nI_1 _) (by decide) rfl (fun ls hl => ?_)
          refine lv_goto (tgt := 5) hx hb dX3_piecesToCome_49 (by decide) ?_
          exact ih (i + 1) (v3 + (S 15 0 i)) _ _ _ (lp_s hk) hV hw (lv_sub hl [2, 3, 4, 1, 0] rfl)
  exact key_5 ((S 2 0 0).toNatClampNeg) 0 0 _ _ _ (Nat.zero_add _) rfl hw (lv_sub hl [2, 3, 4, 1, 0] rfl)

abbrev bw_X3_earliestToCome : List Cond := .code yX3_earliestToCome cX3_earliestToCome 8 (some .int) :: BIG
abbrev rm_X3_earliestToCome : Room := { frames := 1, cells := 0, slots := 0, locals := 21 }
noncomputable def lp_X3_earliestToCome_6 (S : (Nat → Nat → Nat → Int32)) (p1 : Int32) (p2 : Int32) (p3 : Int32) (p4 : Int32) : Nat → Nat → Int32 → Int32
  | 0, i, v5 => (v5)
  | k + 1, i, v5 => if S 14 0 i = p1 then (if S 16 0 i ≤ p2 then (lp_X3_earliestToCome_6 S p1 p2 p3 p4 k (i + 1) v5) else (if nI i = p3 then (if v5 = (-1) then (lp_X3_earliestToCome_6 S p1 p2 p3 p4 k (i + 1) ((S 16 0 i) + p4)) else (lp_X3_earliestToCome_6 S p1 p2 p3 p4 k (i + 1) (if (S 16 0 i) + p4 < v5 then (S 16 0 i) + p4 else v5))) else (if v5 = (-1) then (lp_X3_earliestToCome_6 S p1 p2 p3 p4 k (i + 1) (S 16 0 i)) else (lp_X3_earliestToCome_6 S p1 p2 p3 p4 k (i + 1) (if S 16 0 i < v5 then S 16 0 i else v5))))) else (lp_X3_earliestToCome_6 S p1 p2 p3 p4 k (i + 1) v5)
theorem lz_lp_X3_earliestToCome_6 (S : (Nat → Nat → Nat → Int32)) (p1 : Int32) (p2 : Int32) (p3 : Int32) (p4 : Int32) (i : Nat) (v5 : Int32) : lp_X3_earliestToCome_6 S p1 p2 p3 p4 0 i v5 = (v5) := rfl
noncomputable def sp_X3_earliestToCome (S : (Nat → Nat → Nat → Int32)) (p1 : Int32) (p2 : Int32) (p3 : Int32) (p4 : Int32) : Int32 := (lp_X3_earliestToCome_6 S p1 p2 p3 p4 ((S 2 0 0).toNatClampNeg) 0 (-1))
set_option maxHeartbeats 1000000 in
set_option maxRecDepth 100000 in
theorem ct_X3_earliestToCome {l : Launch} {D : va_G} {cI cG cJ cO : ClassId} {K0 : Nat → Nat} {A : Nat → Prop} {L : List (Nat × Nat)} {ad : Nat → Nat → Nat} {ce : Nat → Nat → va_E} (hL : ∀ f o, cid f o = true → (f, o) ∈ L) (S : (Nat → Nat → Nat → Int32)) (hI : CI S) (p1 : Int32) (p2 : Int32) (p3 : Int32) (p4 : Int32) (sz : Nat) (hA : ∀ q, sz ≤ q → A q) : Met l yX3_earliestToCome bw_X3_earliestToCome rm_X3_earliestToCome (kP D (ktys cI cG cJ cO) K0 A L ad (cK cI cJ ad ce S) sz [.ref (ad 2 0), .int p1, .int p2, .int p3, .int p4]) (kQi D A (sp_X3_earliestToCome S p1 p2 p3 p4) L ad (cK cI cJ ad ce S)) 0 0 A := by
  refine Met.ofW (cc := cX3_earliestToCome) (maxL := 8) (ret := (some .int)) (by decide) rfl ?_
  intro p e s m args below meth c s₁ B hml hv
  obtain ⟨hav, hsz, hP, hD, hK, hO⟩ := hv
  have hx := B.exec
  have hb := B.bytes
  have hr := B.returns
  have hts : ∀ w ∈ BIG, w.before args s = true := fun w h => atoms_spec (ws := bw_X3_earliestToCome) B.pre w (List.mem_cons_of_mem _ h)
  have hown : s.vm.findClass RX3 = some m.cls := findClass_of_methodNamed B.named
  have hlocks := B.notSynchronized
  subst hsz
  have hw := wk.start hP hD
  refine k_start (by rfl) hav (Nat.le_of_ble_eq_true rfl) (fun ls hl => ?_)
  have hl : lv_has ls 8 [(0, .ref (ad 2 0)), (1, .int p1), (2, .int p2), (3, .int p3), (4, .int p4)] := hl
  have hE : sp_X3_earliestToCome S p1 p2 p3 p4 = (lp_X3_earliestToCome_6 S p1 p2 p3 p4 ((S 2 0 0).toNatClampNeg) 0 (-1)) := by unfold sp_X3_earliestToCome; rfl
  refine lv_iconst (v := (-1)) hx hb dX3_earliestToCome_0 (by decide) ?_
  refine lv_istore (lv' := [(5, .int (-1)), (0, .ref (ad 2 0)), (1, .int p1), (2, .int p2), (3, .int p3), (4, .int p4)]) hx hb dX3_earliestToCome_1 hl (by decide) rfl (fun ls hl => ?_)
  refine lv_iconst (v := 0) hx hb dX3_earliestToCome_3 (by decide) ?_
  refine lv_istore (lv' := [(6, .int 0), (5, .int (-1)), (0, .ref (ad 2 0)), (1, .int p1), (2, .int p2), (3, .int p3), (4, .int p4)]) hx hb dX3_earliestToCome_4 hl (by decide) rfl (fun ls hl => ?_)
  have key_6 : ∀ (k i : Nat) (v5 : Int32) (H : Heap) (locs : List Loc) (ls : Array Slot), i + k = (S 2 0 0).toNatClampNeg → (lp_X3_earliestToCome_6 S p1 p2 p3 p4 ((S 2 0 0).toNatClampNeg) 0 (-1)) = lp_X3_earliestToCome_6 S p1 p2 p3 p4 k i v5 → wk D A L ad (cK cI cJ ad ce S) s.heap H locs → lv_has ls 8 [(0, .ref (ad 2 0)), (1, .int p1), (2, .int p2), (3, .int p3), (4, .int p4), (5, .int v5), (6, .int (nI i))] → W p l e (headSpec bw_X3_earliestToCome rm_X3_earliestToCome).room s m args below meth c H locs 0 0 (MQ below (kQi D A (sp_X3_earliestToCome S p1 p2 p3 p4) L ad (cK cI cJ ad ce S)) args s 0 0 A) (F0 m 6 ls []) := by
    intro k
    induction k with
    | zero =>
      intro i v5 H locs ls hk hV hw hl
      have hV := hV.trans (lz_lp_X3_earliestToCome_6 S p1 p2 p3 p4 i v5)
      obtain rfl : v5 = (lp_X3_earliestToCome_6 S p1 p2 p3 p4 ((S 2 0 0).toNatClampNeg) 0 (-1)) := hV.symm
      refine lv_iload hx hb dX3_earliestToCome_6 (lv_at hl 6 rfl) ?_
      refine lv_aload_n hx hb dX3_earliestToCome_8 rfl (lv_at hl 0 rfl) ?_
      refine k_get (C := RX3) (T := TX3) (N := 5) (v := .int (S 2 0 0)) hx hb hts inB_X3 hown hK hw (hL 2 0 rfl) cke_2 rfl 4 (by decide) (hts _ w_f_X3_28) (fun _ h9 => h9) rfl dX3_earliestToCome_9 ?_
      refine lv_icmp_ge (tgt := 91) hx hb dX3_earliestToCome_12 (by decide) (fun _ => ?_) (fun h => absurd (lp_o (SF.b3 (SF.rf _) hI) hk (cn_lt _)) h)
      refine lv_iload hx hb dX3_earliestToCome_91 (lv_at hl 5 rfl) ?_
      exact k_iret hx hb hr hlocks rfl hw hE rfl dX3_earliestToCome_93
    | succ k ih =>
      intro i v5 H locs ls hk hV hw hl
      refine lv_iload hx hb dX3_earliestToCome_6 (lv_at hl 6 rfl) ?_
      refine lv_aload_n hx hb dX3_earliestToCome_8 rfl (lv_at hl 0 rfl) ?_
      refine k_get (C := RX3) (T := TX3) (N := 5) (v := .int (S 2 0 0)) hx hb hts inB_X3 hown hK hw (hL 2 0 rfl) cke_2 rfl 4 (by decide) (hts _ w_f_X3_28) (fun _ h9 => h9) rfl dX3_earliestToCome_9 ?_
      refine lv_icmp_ge (tgt := 91) hx hb dX3_earliestToCome_12 (by decide) (fun h => absurd h (lp_i (SF.b3 (SF.rf _) hI) hk (cn_lt _))) (fun _ => ?_)
      refine lv_aload_n hx hb dX3_earliestToCome_15 rfl (lv_at hl 0 rfl) ?_
      refine k_get (C := RX3) (T := TX3) (N := 5) (v := .ref (ad 14 0)) hx hb hts inB_X3 hown hK hw (hL 2 0 rfl) cke_2 rfl 1 (by decide) (hts _ w_f_X3_15) (fun _ h9 => h9) rfl dX3_earliestToCome_16 ?_
      refine lv_iload hx hb dX3_earliestToCome_19 (lv_at hl 6 rfl) ?_
      refine k_aldn hx hb hK hw (hL 14 0 rfl) 0 cke_14 rfl (Nat.lt_of_lt_of_le (lp_l hk) (CI.n3 hI)) (by decide) dX3_earliestToCome_21 ?_
      refine lv_iload_n hx hb dX3_earliestToCome_22 rfl (lv_at hl 1 rfl) ?_
      refine lv_icmp_ne (tgt := 85) hx hb dX3_earliestToCome_23 (by decide) (fun c_1 => ?_) (fun c_1 => ?_)
      · have hV := hV.trans (if_neg c_1)
        refine lv_iinc (v := (nI (i + 1))) (lv' := [(6, .int (nI (i + 1))), (0, .ref (ad 2 0)), (1, .int p1), (2, .int p2), (3, .int p3), (4, .int p4), (5, .int v5)]) hx hb dX3_earliestToCome_85 hl (k := 6) rfl (nI_1 _) (by decide) rfl (fun ls hl => ?_)
        refine lv_goto (tgt := 6) hx hb dX3_earliestToCome_88 (by decide) ?_
        exact ih (i + 1) v5 _ _ _ (lp_s hk) hV hw (lv_sub hl [1, 2, 3, 4, 5, 6, 0] rfl)
      · have hV := hV.trans (if_pos c_1)
        refine lv_aload_n hx hb dX3_earliestToCome_26 rfl (lv_at hl 0 rfl) ?_
        refine k_get (C := RX3) (T := TX3) (N := 5) (v := .ref (ad 16 0)) hx hb hts inB_X3 hown hK hw (hL 2 0 rfl) cke_2 rfl 3 (by decide) (hts _ w_f_X3_21) (fun _ h9 => h9) rfl dX3_earliestToCome_27 ?_
        refine lv_iload hx hb dX3_earliestToCome_30 (lv_at hl 6 rfl) ?_
        refine k_aldn hx hb hK hw (hL 16 0 rfl) 0 cke_16 rfl (Nat.lt_of_lt_of_le (lp_l hk) (CI.n3 hI)) (by decide) dX3_earliestToCome_32 ?_
        refine lv_iload_n hx hb dX3_earliestToCome_33 rfl (lv_at hl 2 rfl) ?_
        refine lv_icmp_le (tgt := 85) hx hb dX3_earliestToCome_34 (by decide) (fun c_2 => ?_) (fun c_2 => ?_)
        · have hV := hV.trans (if_pos c_2)
          refine lv_iinc (v := (nI (i + 1))) (lv' := [(6, .int (nI (i + 1))), (0, .ref (ad 2 0)), (1, .int p1), (2, .int p2), (3, .int p3), (4, .int p4), (5, .int v5)]) hx hb dX3_earliestToCome_85 hl (k := 6) rfl (nI_1 _) (by decide) rfl (fun ls hl => ?_)
          refine lv_goto (tgt := 6) hx hb dX3_earliestToCome_88 (by decide) ?_
          exact ih (i + 1) v5 _ _ _ (lp_s hk) hV hw (lv_sub hl [1, 2, 3, 4, 5, 6, 0] rfl)
        · have hV := hV.trans (if_neg c_2)
          refine lv_iload hx hb dX3_earliestToCome_37 (lv_at hl 6 rfl) ?_
          refine lv_iload_n hx hb dX3_earliestToCome_39 rfl (lv_at hl 3 rfl) ?_
          refine lv_icmp_ne (tgt := 56) hx hb dX3_earliestToCome_40 (by decide) (fun c_3 => ?_) (fun c_3 => ?_)
          · have hV := hV.trans (if_neg c_3)
            refine lv_aload_n hx hb dX3_earliestToCome_56 rfl (lv_at hl 0 rfl) ?_
            refine k_get (C := RX3) (T := TX3) (N := 5) (v := .ref (ad 16 0)) hx hb hts inB_X3 hown hK hw (hL 2 0 rfl) cke_2 rfl 3 (by decide) (hts _ w_f_X3_21) (fun _ h9 => h9) rfl dX3_earliestToCome_57 ?_
            refine lv_iload hx hb dX3_earliestToCome_60 (lv_at hl 6 rfl) ?_
            refine k_aldn hx hb hK hw (hL 16 0 rfl) 0 cke_16 rfl (Nat.lt_of_lt_of_le (lp_l hk) (CI.n3 hI)) (by decide) dX3_earliestToCome_62 ?_
            refine lv_istore (lv' := [(7, .int (S 16 0 i)), (0, .ref (ad 2 0)), (1, .int p1), (2, .int p2), (3, .int p3), (4, .int p4), (5, .int v5), (6, .int (nI i))]) hx hb dX3_earliestToCome_63 hl (by decide) rfl (fun ls hl => ?_)
            refine lv_iload hx hb dX3_earliestToCome_65 (lv_at hl 6 rfl) ?_
            refine lv_iconst (v := (-1)) hx hb dX3_earliestToCome_67 (by decide) ?_
            refine lv_icmp_ne (tgt := 76) hx hb dX3_earliestToCome_68 (by decide) (fun c_4 => ?_) (fun c_4 => ?_)
            · have hV := hV.trans (if_neg c_4)
              refine lv_iload hx hb dX3_earliestToCome_76 (lv_at hl 6 rfl) ?_
              refine lv_iload hx hb dX3_earliestToCome_78 (lv_at hl 0 rfl) ?_
              refine va_mmin hx hb (hml.trans hl.1.symm) hown (hts _ w_ml_X3_36) (hts _ w_st_min) (hts _ w_in_J9) (hts _ w_co_min) (by decide) (Nat.le_of_ble_eq_true rfl) (Nat.zero_le _) (Nat.zero_le _) dX3_earliestToCome_80 ?_
              refine lv_istore (lv' := [(5, .int (if S 16 0 i < v5 then S 16 0 i else v5)), (7, .int (S 16 0 i)), (0, .ref (ad 2 0)), (1, .int p1), (2, .int p2), (3, .int p3), (4, .int p4), (6, .int (nI i))]) hx hb dX3_earliestToCome_83 hl (by decide) rfl (fun ls hl => ?_)
              refine lv_iinc (v := (nI (i + 1))) (lv' := [(6, .int (nI (i + 1))), (5, .int (if S 16 0 i < v5 then S 16 0 i else v5)), (7, .int (S 16 0 i)), (0, .ref (ad 2 0)), (1, .int p1), (2, .int p2), (3, .int p3), (4, .int p4)]) hx hb dX3_earliestToCome_85 hl (k := 7) rfl (nI_1 _) (by decide) rfl (fun ls hl => ?_)
              refine lv_goto (tgt := 6) hx hb dX3_earliestToCome_88 (by decide) ?_
              exact ih (i + 1) (if S 16 0 i < v5 then S 16 0 i else v5) _ _ _ (lp_s hk) hV hw (lv_sub hl [3, 4, 5, 6, 7, 1, 0] rfl)
            · have hV := hV.trans (if_pos c_4)
              refine lv_iload hx hb dX3_earliestToCome_71 (lv_at hl 0 rfl) ?_
              refine lv_goto (tgt := 83) hx hb dX3_earliestToCome_73 (by decide) ?_
              refine lv_istore (lv' := [(5, .int (S 16 0 i)), (7, .int (S 16 0 i)), (0, .ref (ad 2 0)), (1, .int p1), (2, .int p2), (3, .int p3), (4, .int p4), (6, .int (nI i))]) hx hb dX3_earliestToCome_83 hl (by decide) rfl (fun ls hl => ?_)
              refine lv_iinc (v := (nI (i + 1))) (lv' := [(6, .int (nI (i + 1))), (5, .int (S 16 0 i)), (7, .int (S 16 0 i)), (0, .ref (ad 2 0)), (1, .int p1), (2, .int p2), (3, .int p3), (4, .int p4)]) hx hb dX3_earliestToCome_85 hl (k := 7) rfl (nI_1 _) (by decide) rfl (fun ls hl => ?_)
              refine lv_goto (tgt := 6) hx hb dX3_earliestToCome_88 (by decide) ?_
              exact ih (i + 1) (S 16 0 i) _ _ _ (lp_s hk) hV hw (lv_sub hl [3, 4, 5, 6, 7, 1, 0] rfl)
          · have hV := hV.trans (if_pos c_3)
            refine lv_aload_n hx hb dX3_earliestToCome_43 rfl (lv_at hl 0 rfl) ?_
            refine k_get (C := RX3) (T := TX3) (N := 5) (v := .ref (ad 16 0)) hx hb hts inB_X3 hown hK hw (hL 2 0 rfl) cke_2 rfl 3 (by decide) (hts _ w_f_X3_21) (fun _ h9 => h9) rfl dX3_earliestToCome_44 ?_
            refine lv_iload hx hb dX3_earliestToCome_47 (lv_at hl 6 rfl) ?_
            refine k_aldn hx hb hK hw (hL 16 0 rfl) 0 cke_16 rfl (Nat.lt_of_lt_of_le (lp_l hk) (CI.n3 hI)) (by decide) dX3_earliestToCome_49 ?_
            refine lv_iload hx hb dX3_earliestToCome_50 (lv_at hl 4 rfl) ?_
            refine lv_iadd hx hb dX3_earliestToCome_52 ?_
            refine lv_goto (tgt := 63) hx hb dX3_earliestToCome_53 (by decide) ?_
            refine lv_istore (lv' := [(7, .int ((S 16 0 i) + p4)), (0, .ref (ad 2 0)), (1, .int p1), (2, .int p2), (3, .int p3), (4, .int p4), (5, .int v5), (6, .int (nI i))]) hx hb dX3_earliestToCome_63 hl (by decide) rfl (fun ls hl => ?_)
            refine lv_iload hx hb dX3_earliestToCome_65 (lv_at hl 6 rfl) ?_
            refine lv_iconst (v := (-1)) hx hb dX3_earliestToCome_67 (by decide) ?_
            refine lv_icmp_ne (tgt := 76) hx hb dX3_earliestToCome_68 (by decide) (fun c_5 => ?_) (fun c_5 => ?_)
            · have hV := hV.trans (if_neg c_5)
              refine lv_iload hx hb dX3_earliestToCome_76 (lv_at hl 6 rfl) ?_
              refine lv_iload hx hb dX3_earliestToCome_78 (lv_at hl 0 rfl) ?_
              refine va_mmin hx hb (hml.trans hl.1.symm) hown (hts _ w_ml_X3_36) (hts _ w_st_min) (hts _ w_in_J9) (hts _ w_co_min) (by decide) (Nat.le_of_ble_eq_true rfl) (Nat.zero_le _) (Nat.zero_le _) dX3_earliestToCome_80 ?_
              refine lv_istore (lv' := [(5, .int (if (S 16 0 i) + p4 < v5 then (S 16 0 i) + p4 else v5)), (7, .int ((S 16 0 i) + p4)), (0, .ref (ad 2 0)), (1, .int p1), (2, .int p2), (3, .int p3), (4, .int p4), (6, .int (nI i))]) hx hb dX3_earliestToCome_83 hl (by decide) rfl (fun ls hl => ?_)
              refine lv_iinc (v := (nI (i + 1))) (lv' := [(6, .int (nI (i + 1))), (5, .int (if (S 16 0 i) + p4 < v5 then (S 16 0 i) + p4 else v5)), (7, .int ((S 16 0 i) + p4)), (0, .ref (ad 2 0)), (1, .int p1), (2, .int p2), (3, .int p3), (4, .int p4)]) hx hb dX3_earliestToCome_85 hl (k := 7) rfl (nI_1 _) (by decide) rfl (fun ls hl => ?_)
              refine lv_goto (tgt := 6) hx hb dX3_earliestToCome_88 (by decide) ?_
              exact ih (i + 1) (if (S 16 0 i) + p4 < v5 then (S 16 0 i) + p4 else v5) _ _ _ (lp_s hk) hV hw (lv_sub hl [3, 4, 5, 6, 7, 1, 0] rfl)
            · have hV := hV.trans (if_pos c_5)
              refine lv_iload hx hb dX3_earliestToCome_71 (lv_at hl 0 rfl) ?_
              refine lv_goto (tgt := 83) hx hb dX3_earliestToCome_73 (by decide) ?_
              refine lv_istore (lv' := [(5, .int ((S 16 0 i) + p4)), (7, .int ((S 16 0 i) + p4)), (0, .ref (ad 2 0)), (1, .int p1), (2, .int p2), (3, .int p3), (4, .int p4), (6, .int (nI i))]) hx hb dX3_earliestToCome_83 hl (by decide) rfl (fun ls hl => ?_)
              refine lv_iinc (v := (nI (i + 1))) (lv' := [(6, .int (nI (i + 1))), (5, .int ((S 16 0 i) + p4)), (7, .int ((S 16 0 i) + p4)), (0, .ref (ad 2 0)), (1, .int p1), (2, .int p2), (3, .int p3), (4, .int p4)]) hx hb dX3_earliestToCome_85 hl (k := 7) rfl (nI_1 _) (by decide) rfl (fun ls hl => ?_)
              refine lv_goto (tgt := 6) hx hb dX3_earliestToCome_88 (by decide) ?_
              exact ih (i + 1) ((S 16 0 i) + p4) _ _ _ (lp_s hk) hV hw (lv_sub hl [3, 4, 5, 6, 7, 1, 0] rfl)
  exact key_6 ((S 2 0 0).toNatClampNeg) 0 (-1) _ _ _ (Nat.zero_add _) rfl hw (lv_sub hl [2, 3, 4, 5, 6, 1, 0] rfl)
