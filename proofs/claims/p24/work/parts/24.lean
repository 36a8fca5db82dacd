abbrev bw_X2_knows : List Cond := .code yX2_knows cX2_knows 2 (some .boolean) :: BIG
abbrev rm_X2_knows : Room := { frames := 0, cells := 0, slots := 0, locals := 0 }
noncomputable def sp_X2_knows (S : (Nat → Nat → Nat → Int32)) (p1 : Int32) : Int32 := if p1 < 0 then (0) else (if p1 >>> ((S 1 0 0) &&& 31) = 0 then (1) else (0))
set_option maxHeartbeats 1000000 in
set_option maxRecDepth 100000 in
theorem ct_X2_knows {l : Launch} {D : va_G} {cI cG cJ cO : ClassId} {K0 : Nat → Nat} {A : Nat → Prop} {L : List (Nat × Nat)} {ad : Nat → Nat → Nat} {ce : Nat → Nat → va_E} (hL : ∀ f o, cid f o = true → (f, o) ∈ L) (S : (Nat → Nat → Nat → Int32)) (hI : CI S) (p1 : Int32) (sz : Nat) (hA : ∀ q, sz ≤ q → A q) : Met l yX2_knows bw_X2_knows rm_X2_knows (kP D (ktys cI cG cJ cO) K0 A L ad (cK cI cJ ad ce S) sz [.ref (ad 1 0), .int p1]) (kQi D A (sp_X2_knows S p1) L ad (cK cI cJ ad ce S)) 0 0 A := by
  refine Met.ofW (cc := cX2_knows) (maxL := 2) (ret := (some .boolean)) (by decide) rfl ?_
  intro p e s m args below meth c s₁ B hml hv
  obtain ⟨hav, hsz, hP, hD, hK, hO⟩ := hv
  have hx := B.exec
  have hb := B.bytes
  have hr := B.returns
  have hts : ∀ w ∈ BIG, w.before args s = true := fun w h => atoms_spec (ws := bw_X2_knows) B.pre w (List.mem_cons_of_mem _ h)
  have hown : s.vm.findClass RX2 = some m.cls := findClass_of_methodNamed B.named
  have hlocks := B.notSynchronized
  subst hsz
  have hw := wk.start hP hD
  refine k_start (by rfl) hav (Nat.le_of_ble_eq_true rfl) (fun ls hl => ?_)
  have hl : lv_has ls 2 [(0, .ref (ad 1 0)), (1, .int p1)] := hl
  have hE : sp_X2_knows S p1 = sp_X2_knows S p1 := rfl
  refine lv_iload_n hx hb dX2_knows_0 rfl (lv_at hl 1 rfl) ?_
  refine lv_if_lt (tgt := 17) hx hb dX2_knows_1 (by decide) (fun c_1 => ?_) (fun c_1 => ?_)
  · have hE := hE.trans (if_pos c_1)
    refine lv_iconst (v := 0) hx hb dX2_knows_17 (by decide) ?_
    exact k_iret hx hb hr hlocks rfl hw hE rfl dX2_knows_18
  · have hE := hE.trans (if_neg c_1)
    refine lv_iload_n hx hb dX2_knows_4 rfl (lv_at hl 1 rfl) ?_
    refine lv_aload_n hx hb dX2_knows_5 rfl (lv_at hl 0 rfl) ?_
    refine k_get (C := RX2) (T := TX2) (N := 8) (v := .int (S 1 0 0)) hx hb hts inB_X2 hown hK hw (hL 1 0 rfl) cke_1 rfl 6 (by decide) (hts _ w_f_X2_30) (fun _ h9 => h9) rfl dX2_knows_6 ?_
    refine lv_ishr hx hb dX2_knows_9 ?_
    refine lv_if_ne (tgt := 17) hx hb dX2_knows_10 (by decide) (fun c_2 => ?_) (fun c_2 => ?_)
    · have hE := hE.trans (if_neg c_2)
      refine lv_iconst (v := 0) hx hb dX2_knows_17 (by decide) ?_
      exact k_iret hx hb hr hlocks rfl hw hE rfl dX2_knows_18
    · have hE := hE.trans (if_pos c_2)
      refine lv_iconst (v := 1) hx hb dX2_knows_13 (by decide) ?_
      refine lv_goto (tgt := 18) hx hb dX2_knows_14 (by decide) ?_
      exact k_iret hx hb hr hlocks rfl hw hE rfl dX2_knows_18

theorem bz_X2_knows (S : (Nat → Nat → Nat → Int32)) (p1 : Int32) : sp_X2_knows S p1 = 0 ∨ sp_X2_knows S p1 = 1 := by
  unfold sp_X2_knows
  repeat' split
  all_goals first | exact Or.inl rfl | exact Or.inr rfl | exact bz_X5_has _ _ | exact bz_X5_isWithin _ _ _ | exact bz_X5_isOfKind _ _ | exact bz_X1_isIn _ _ _ _ | exact bz_X3_hasPiece _ _ | skip

abbrev bw_X2_addStep : List Cond := .code yX2_addStep cX2_addStep 5 (some .int) :: BIG
abbrev rm_X2_addStep : Room := { frames := 0, cells := 0, slots := 0, locals := 0 }
noncomputable def rw_X2_addStep (S : (Nat → Nat → Nat → Int32)) (p1 : Int32) (p2 : Int32) (p3 : Int32) (p4 : Int32) : Int32 × (Nat → Nat → Nat → Int32) := if S 1 0 0 < 12 then ((((up3 (up3 (up3 (up3 (up3 S 7 0 ((S 1 0 0).toNatClampNeg) p1) 8 0 ((S 1 0 0).toNatClampNeg) p2) 9 0 ((S 1 0 0).toNatClampNeg) p3) 10 0 ((S 1 0 0).toNatClampNeg) p4) 1 0 0 ((S 1 0 0) + 1)) 1 0 0) - 1, (up3 (up3 (up3 (up3 (up3 S 7 0 ((S 1 0 0).toNatClampNeg) p1) 8 0 ((S 1 0 0).toNatClampNeg) p2) 9 0 ((S 1 0 0).toNatClampNeg) p3) 10 0 ((S 1 0 0).toNatClampNeg) p4) 1 0 0 ((S 1 0 0) + 1)))) else (((-1), S))
/-- sealed: it unfolds by un_ alone -/
noncomputable def sp_X2_addStep : (Nat → Nat → Nat → Int32) → Int32 → Int32 → Int32 → Int32 → (Int32 × (Nat → Nat → Nat → Int32)) := Classical.choose (⟨rw_X2_addStep, rfl⟩ : ∃ f, f = rw_X2_addStep)
theorem un_X2_addStep (S : (Nat → Nat → Nat → Int32)) (p1 : Int32) (p2 : Int32) (p3 : Int32) (p4 : Int32) : sp_X2_addStep S p1 p2 p3 p4 = rw_X2_addStep S p1 p2 p3 p4 := (congrFun (congrFun (congrFun (congrFun (congrFun (Classical.choose_spec (⟨rw_X2_addStep, rfl⟩ : ∃ f, f = rw_X2_addStep)) S) p1) p2) p3) p4)
set_option maxHeartbeats 1000000 in
set_option maxRecDepth 100000 in
theorem ct_X2_addStep {l : Launch} {D : va_G} {cI cG cJ cO : ClassId} {K0 : Nat → Nat} {A : Nat → Prop} {L : List (Nat × Nat)} {ad : Nat → Nat → Nat} {ce : Nat → Nat → va_E} (hL : ∀ f o, cid f o = true → (f, o) ∈ L) (S : (Nat → Nat → Nat → Int32)) (hI : CI S) (p1 : Int32) (p2 : Int32) (p3 : Int32) (p4 : Int32) (sz : Nat) (hA : ∀ q, sz ≤ q → A q) : Met l yX2_addStep bw_X2_addStep rm_X2_addStep (kP D (ktys cI cG cJ cO) K0 A L ad (cK cI cJ ad ce S) sz [.ref (ad 1 0), .int p1, .int p2, .int p3, .int p4]) (kQi D A (sp_X2_addStep S p1 p2 p3 p4).1 L ad (cK cI cJ ad ce (sp_X2_addStep S p1 p2 p3 p4).2)) 0 0 A := by
  refine Met.ofW (cc := cX2_addStep) (maxL := 5) (ret := (some .int)) (by decide) rfl ?_
  intro p e s m args below meth c s₁ B hml hv
  obtain ⟨hav, hsz, hP, hD, hK, hO⟩ := hv
  have hx := B.exec
  have hb := B.bytes
  have hr := B.returns
  have hts : ∀ w ∈ BIG, w.before args s = true := fun w h => atoms_spec (ws := bw_X2_addStep) B.pre w (List.mem_cons_of_mem _ h)
  have hown : s.vm.findClass RX2 = some m.cls := findClass_of_methodNamed B.named
  have hlocks := B.notSynchronized
  subst hsz
  have hw := wk.start hP hD
  refine k_start (by rfl) hav (Nat.le_of_ble_eq_true rfl) (fun ls hl => ?_)
  have hl : lv_has ls 5 [(0, .ref (ad 1 0)), (1, .int p1), (2, .int p2), (3, .int p3), (4, .int p4)] := hl
  have hE : sp_X2_addStep S p1 p2 p3 p4 = rw_X2_addStep S p1 p2 p3 p4 := un_X2_addStep S p1 p2 p3 p4
  refine lv_aload_n hx hb dX2_addStep_0 rfl (lv_at hl 0 rfl) ?_
  refine k_get (C := RX2) (T := TX2) (N := 8) (v := .int (S 1 0 0)) hx hb hts inB_X2 hown hK hw (hL 1 0 rfl) cke_1 rfl 6 (by decide) (hts _ w_f_X2_30) (fun _ h9 => h9) rfl dX2_addStep_1 ?_
  refine lv_bipush (v := 12) hx hb dX2_addStep_4 (by decide) ?_
  refine lv_icmp_lt (tgt := 11) hx hb dX2_addStep_6 (by decide) (fun c_1 => ?_) (fun c_1 => ?_)
  · have hE := hE.trans (if_pos c_1)
    refine lv_aload_n hx hb dX2_addStep_11 rfl (lv_at hl 0 rfl) ?_
    refine k_get (C := RX2) (T := TX2) (N := 8) (v := .ref (ad 7 0)) hx hb hts inB_X2 hown hK hw (hL 1 0 rfl) cke_1 rfl 0 (by decide) (hts _ w_f_X2_9) (fun _ h9 => h9) rfl dX2_addStep_12 ?_
    refine lv_aload_n hx hb dX2_addStep_15 rfl (lv_at hl 0 rfl) ?_
    refine k_get (C := RX2) (T := TX2) (N := 8) (v := .int (S 1 0 0)) hx hb hts inB_X2 hown hK hw (hL 1 0 rfl) cke_1 rfl 6 (by decide) (hts _ w_f_X2_30) (fun _ h9 => h9) rfl dX2_addStep_16 ?_
    refine lv_iload_n hx hb dX2_addStep_19 rfl (lv_at hl 1 rfl) ?_
    refine k_ast hx hb hK hw (hL 7 0 rfl) 0 cke_7 rfl (CI.in1 hI (lt_nle c_1)) (cK_up (i := ((S 1 0 0).toNatClampNeg)) (x := p1) (by decide) rfl) dX2_addStep_20 (fun H locs hw => ?_)
    refine lv_aload_n hx hb dX2_addStep_21 rfl (lv_at hl 0 rfl) ?_
    refine k_get (C := RX2) (T := TX2) (N := 8) (v := .ref (ad 8 0)) hx hb hts inB_X2 hown hK hw (hL 1 0 rfl) cke_1 rfl 1 (by decide) (hts _ w_f_X2_15) (fun _ h9 => h9) rfl dX2_addStep_22 ?_
    refine lv_aload_n hx hb dX2_addStep_25 rfl (lv_at hl 0 rfl) ?_
    refine k_get (C := RX2) (T := TX2) (N := 8) (v := .int (S 1 0 0)) hx hb hts inB_X2 hown hK hw (hL 1 0 rfl) cke_1 rfl 6 (by decide) (hts _ w_f_X2_30) (fun _ h9 => h9) rfl dX2_addStep_26 ?_
    refine lv_iload_n hx hb dX2_addStep_29 rfl (lv_at hl 2 rfl) ?_
    refine k_ast hx hb hK hw (hL 8 0 rfl) 0 cke_8 rfl (CI.in1 hI (lt_nle c_1)) (cK_up (i := ((S 1 0 0).toNatClampNeg)) (x := p2) (by decide) rfl) dX2_addStep_30 (fun H locs hw => ?_)
    refine lv_aload_n hx hb dX2_addStep_31 rfl (lv_at hl 0 rfl) ?_
    refine k_get (C := RX2) (T := TX2) (N := 8) (v := .ref (ad 9 0)) hx hb hts inB_X2 hown hK hw (hL 1 0 rfl) cke_1 rfl 2 (by decide) (hts _ w_f_X2_18) (fun _ h9 => h9) rfl dX2_addStep_32 ?_
    refine lv_aload_n hx hb dX2_addStep_35 rfl (lv_at hl 0 rfl) ?_
    refine k_get (C := RX2) (T := TX2) (N := 8) (v := .int (S 1 0 0)) hx hb hts inB_X2 hown hK hw (hL 1 0 rfl) cke_1 rfl 6 (by decide) (hts _ w_f_X2_30) (fun _ h9 => h9) rfl dX2_addStep_36 ?_
    refine lv_iload_n hx hb dX2_addStep_39 rfl (lv_at hl 3 rfl) ?_
    refine k_ast hx hb hK hw (hL 9 0 rfl) 0 cke_9 rfl (CI.in1 hI (lt_nle c_1)) (cK_up (i := ((S 1 0 0).toNatClampNeg)) (x := p3) (by decide) rfl) dX2_addStep_40 (fun H locs hw => ?_)
    refine lv_aload_n hx hb dX2_addStep_41 rfl (lv_at hl 0 rfl) ?_
    refine k_get (C := RX2) (T := TX2) (N := 8) (v := .ref (ad 10 0)) hx hb hts inB_X2 hown hK hw (hL 1 0 rfl) cke_1 rfl 3 (by decide) (hts _ w_f_X2_21) (fun _ h9 => h9) rfl dX2_addStep_42 ?_
    refine lv_aload_n hx hb dX2_addStep_45 rfl (lv_at hl 0 rfl) ?_
    refine k_get (C := RX2) (T := TX2) (N := 8) (v := .int (S 1 0 0)) hx hb hts inB_X2 hown hK hw (hL 1 0 rfl) cke_1 rfl 6 (by decide) (hts _ w_f_X2_30) (fun _ h9 => h9) rfl dX2_addStep_46 ?_
    refine lv_iload hx hb dX2_addStep_49 (lv_at hl 4 rfl) ?_
    refine k_ast hx hb hK hw (hL 10 0 rfl) 0 cke_10 rfl (CI.in1 hI (lt_nle c_1)) (cK_up (i := ((S 1 0 0).toNatClampNeg)) (x := p4) (by decide) rfl) dX2_addStep_51 (fun H locs hw => ?_)
    refine lv_aload_n hx hb dX2_addStep_52 rfl (lv_at hl 0 rfl) ?_
    refine lv_dup hx hb dX2_addStep_53 rfl ?_
    refine k_get (C := RX2) (T := TX2) (N := 8) (v := .int (S 1 0 0)) hx hb hts inB_X2 hown hK hw (hL 1 0 rfl) cke_1 rfl 6 (by decide) (hts _ w_f_X2_30) (fun _ h9 => h9) rfl dX2_addStep_54 ?_
    refine lv_iconst (v := 1) hx hb dX2_addStep_57 (by decide) ?_
    refine lv_iadd hx hb dX2_addStep_58 ?_
    refine k_put (C := RX2) (T := TX2) (N := 8) (v := .int ((S 1 0 0) + 1)) (ty := .int) hx hb hts inB_X2 tyX2 tyX2_ok nmX2 hown hK hw (hL 1 0 rfl) cke_1 rfl 6 (by decide) (hts _ w_f_X2_30) (fun _ h9 => h9) rfl (by decide +kernel) rfl rfl (Nat.le_of_ble_eq_true rfl) (cK_up (i := 0) (x := ((S 1 0 0) + 1)) (by decide) rfl) dX2_addStep_59 (fun H locs hw => ?_)
    refine lv_aload_n hx hb dX2_addStep_62 rfl (lv_at hl 0 rfl) ?_
    refine k_get (C := RX2) (T := TX2) (N := 8) (v := .int ((up3 (up3 (up3 (up3 (up3 S 7 0 ((S 1 0 0).toNatClampNeg) p1) 8 0 ((S 1 0 0).toNatClampNeg) p2) 9 0 ((S 1 0 0).toNatClampNeg) p3) 10 0 ((S 1 0 0).toNatClampNeg) p4) 1 0 0 ((S 1 0 0) + 1)) 1 0 0)) hx hb hts inB_X2 hown hK hw (hL 1 0 rfl) cke_1 rfl 6 (by decide) (hts _ w_f_X2_30) (fun _ h9 => h9) rfl dX2_addStep_63 ?_
    refine lv_iconst (v := 1) hx hb dX2_addStep_66 (by decide) ?_
    refine lv_isub hx hb dX2_addStep_67 ?_
    exact k_iretE hx hb hr hlocks rfl hw hE dX2_addStep_68
  · have hE := hE.trans (if_neg c_1)
    refine lv_iconst (v := (-1)) hx hb dX2_addStep_9 (by decide) ?_
    exact k_iretE hx hb hr hlocks rfl hw hE dX2_addStep_10

theorem ci_X2_addStep (S : (Nat → Nat → Nat → Int32)) (p1 : Int32) (p2 : Int32) (p3 : Int32) (p4 : Int32) (h : CI S) : CI (sp_X2_addStep S p1 p2 p3 p4).2 := by
  rw [un_X2_addStep]
  unfold rw_X2_addStep
  by_cases c0 : S 1 0 0 < 12
  · rw [if_pos c0]
    have c := lt_nle c0
    exact ⟨inc_le h.1.1 rfl (by decide) c, h.2⟩
  · rw [if_neg c0]; exact h

abbrev bw_X2_addRight : List Cond := .code yX2_addRight cX2_addRight 2 (some .int) :: BIG
abbrev rm_X2_addRight : Room := { frames := 0, cells := 0, slots := 0, locals := 0 }
noncomputable def rw_X2_addRight (S : (Nat → Nat → Nat → Int32)) (p1 : Int32) : Int32 × (Nat → Nat → Nat → Int32) := if S 1 0 1 < 6 then ((((up3 (up3 S 12 0 ((S 1 0 1).toNatClampNeg) p1) 1 0 1 ((S 1 0 1) + 1)) 1 0 1) - 1, (up3 (up3 S 12 0 ((S 1 0 1).toNatClampNeg) p1) 1 0 1 ((S 1 0 1) + 1)))) else (((-1), S))
/-- sealed: it unfolds by un_ alone -/
noncomputable def sp_X2_addRight : (Nat → Nat → Nat → Int32) → Int32 → (Int32 × (Nat → Nat → Nat → Int32)) := Classical.choose (⟨rw_X2_addRight, rfl⟩ : ∃ f, f = rw_X2_addRight)
theorem un_X2_addRight (S : (Nat → Nat → Nat → Int32)) (p1 : Int32) : sp_X2_addRight S p1 = rw_X2_addRight S p1 := (congrFun (congrFun (Classical.choose_spec (⟨rw_X2_addRight, rfl⟩ : ∃ f, f = rw_X2_addRight)) S) p1)
set_option maxHeartbeats 1000000 in
set_option maxRecDepth 100000 in
theorem ct_X2_addRight {l : Launch} {D : va_G} {cI cG cJ cO : ClassId} {K0 : Nat → Nat} {A : Nat → Prop} {L : List (Nat × Nat)} {ad : Nat → Nat → Nat} {ce : Nat → Nat → va_E} (hL : ∀ f o, cid f o = true → (f, o) ∈ L) (S : (Nat → Nat → Nat → Int32)) (hI : CI S) (p1 : Int32) (sz : Nat) (hA : ∀ q, sz ≤ q → A q) : Met l yX2_addRight bw_X2_addRight rm_X2_addRight (kP D (ktys cI cG cJ cO) K0 A L ad (cK cI cJ ad ce S) sz [.ref (ad 1 0), .int p1]) (kQi D A (sp_X2_addRight S p1).1 L ad (cK cI cJ ad ce (sp_X2_addRight S p1).2)) 0 0 A := by
  refine Met.ofW (cc := cX2_addRight) (maxL := 2) (ret := (some .int)) (by decide) rfl ?_
  intro p e s m args below meth c s₁ B hml hv
  obtain ⟨hav, hsz, hP, hD, hK, hO⟩ := hv
  have hx := B.exec
  have hb := B.bytes
  have hr := B.returns
  have hts : ∀ w ∈ BIG, w.before args s = true := fun w h => atoms_spec (ws := bw_X2_addRight) B.pre w (List.mem_cons_of_mem _ h)
  have hown : s.vm.findClass RX2 = some m.cls := findClass_of_methodNamed B.named
  have hlocks := B.notSynchronized
  subst hsz
  have hw := wk.start hP hD
  refine k_start (by rfl) hav (Nat.le_of_ble_eq_true rfl) (fun ls hl => ?_)
  have hl : lv_has ls 2 [(0, .ref (ad 1 0)), (1, .int p1)] := hl
  have hE : sp_X2_addRight S p1 = rw_X2_addRight S p1 := un_X2_addRight S p1
  refine lv_aload_n hx hb dX2_addRight_0 rfl (lv_at hl 0 rfl) ?_
  refine k_get (C := RX2) (T := TX2) (N := 8) (v := .int (S 1 0 1)) hx hb hts inB_X2 hown hK hw (hL 1 0 rfl) cke_1 rfl 7 (by decide) (hts _ w_f_X2_34) (fun _ h9 => h9) rfl dX2_addRight_1 ?_
  refine lv_bipush (v := 6) hx hb dX2_addRight_4 (by decide) ?_
  refine lv_icmp_lt (tgt := 11) hx hb dX2_addRight_6 (by decide) (fun c_1 => ?_) (fun c_1 => ?_)
  · have hE := hE.trans (if_pos c_1)
    refine lv_aload_n hx hb dX2_addRight_11 rfl (lv_at hl 0 rfl) ?_
    refine k_get (C := RX2) (T := TX2) (N := 8) (v := .ref (ad 12 0)) hx hb hts inB_X2 hown hK hw (hL 1 0 rfl) cke_1 rfl 5 (by decide) (hts _ w_f_X2_27) (fun _ h9 => h9) rfl dX2_addRight_12 ?_
    refine lv_aload_n hx hb dX2_addRight_15 rfl (lv_at hl 0 rfl) ?_
    refine k_get (C := RX2) (T := TX2) (N := 8) (v := .int (S 1 0 1)) hx hb hts inB_X2 hown hK hw (hL 1 0 rfl) cke_1 rfl 7 (by decide) (hts _ w_f_X2_34) (fun _ h9 => h9) rfl dX2_addRight_16 ?_
    refine lv_iload_n hx hb dX2_addRight_19 rfl (lv_at hl 1 rfl) ?_
    refine k_ast hx hb hK hw (hL 12 0 rfl) 0 cke_12 rfl (CI.in2 hI (lt_nle c_1)) (cK_up (i := ((S 1 0 1).toNatClampNeg)) (x := p1) (by decide) rfl) dX2_addRight_20 (fun H locs hw => ?_)
    refine lv_aload_n hx hb dX2_addRight_21 rfl (lv_at hl 0 rfl) ?_
    refine lv_dup hx hb dX2_addRight_22 rfl ?_
    refine k_get (C := RX2) (T := TX2) (N := 8) (v := .int (S 1 0 1)) hx hb hts inB_X2 hown hK hw (hL 1 0 rfl) cke_1 rfl 7 (by decide) (hts _ w_f_X2_34) (fun _ h9 => h9) rfl dX2_addRight_23 ?_
    refine lv_iconst (v := 1) hx hb dX2_addRight_26 (by decide) ?_
    refine lv_iadd hx hb dX2_addRight_27 ?_
    refine k_put (C := RX2) (T := TX2) (N := 8) (v := .int ((S 1 0 1) + 1)) (ty := .int) hx hb hts inB_X2 tyX2 tyX2_ok nmX2 hown hK hw (hL 1 0 rfl) cke_1 rfl 7 (by decide) (hts _ w_f_X2_34) (fun _ h9 => h9) rfl (by decide +kernel) rfl rfl (Nat.le_of_ble_eq_true rfl) (cK_up (i := 1) (x := ((S 1 0 1) + 1)) (by decide) rfl) dX2_addRight_28 (fun H locs hw => ?_)
    refine lv_aload_n hx hb dX2_addRight_31 rfl (lv_at hl 0 rfl) ?_
    refine k_get (C := RX2) (T := TX2) (N := 8) (v := .int ((up3 (up3 S 12 0 ((S 1 0 1).toNatClampNeg) p1) 1 0 1 ((S 1 0 1) + 1)) 1 0 1)) hx hb hts inB_X2 hown hK hw (hL 1 0 rfl) cke_1 rfl 7 (by decide) (hts _ w_f_X2_34) (fun _ h9 => h9) rfl dX2_addRight_32 ?_
    refine lv_iconst (v := 1) hx hb dX2_addRight_35 (by decide) ?_
    refine lv_isub hx hb dX2_addRight_36 ?_
    exact k_iretE hx hb hr hlocks rfl hw hE dX2_addRight_37
  · have hE := hE.trans (if_neg c_1)
    refine lv_iconst (v := (-1)) hx hb dX2_addRight_9 (by decide) ?_
    exact k_iretE hx hb hr hlocks rfl hw hE dX2_addRight_10

theorem ci_X2_addRight (S : (Nat → Nat → Nat → Int32)) (p1 : Int32) (h : CI S) : CI (sp_X2_addRight S p1).2 := by
  rw [un_X2_addRight]
  unfold rw_X2_addRight
  by_cases c0 : S 1 0 1 < 6
  · rw [if_pos c0]
    have c := lt_nle c0
    exact ⟨h.1, inc_le h.2.1.1 rfl (by decide) c, h.2.2⟩
  · rw [if_neg c0]; exact h

abbrev bw_X2_needsAreDone : List Cond := .code yX2_needsAreDone cX2_needsAreDone 3 (some .boolean) :: BIG
abbrev rm_X2_needsAreDone : Room := { frames := 1, cells := 0, slots := 0, locals := 23 }
noncomputable def sp_X2_needsAreDone (S : (Nat → Nat → Nat → Int32)) (j : Nat) (p2 : Int32) : Int32 := if p2 < 0 then (0) else (if p2 < 12 then (if ((S 9 0 p2.toNatClampNeg) &&& (S 6 j 0)) &&& ((sp_X1_stepsIn S j 2) ^^^ (-1)) = 0 then (1) else (0)) else (0))
set_option maxHeartbeats 1000000 in
set_option maxRecDepth 100000 in
theorem ct_X2_needsAreDone {l : Launch} {D : va_G} {cI cG cJ cO : ClassId} {K0 : Nat → Nat} {A : Nat → Prop} {L : List (Nat × Nat)} {ad : Nat → Nat → Nat} {ce : Nat → Nat → va_E} (hL : ∀ f o, cid f o = true → (f, o) ∈ L) (S : (Nat → Nat → Nat → Int32)) (hI : CI S) (j : Nat) (hj : j < 8) (p2 : Int32) (sz : Nat) (hA : ∀ q, sz ≤ q → A q) : Met l yX2_needsAreDone bw_X2_needsAreDone rm_X2_needsAreDone (kP D (ktys cI cG cJ cO) K0 A L ad (cK cI cJ ad ce S) sz [.ref (ad 1 0), .ref (ad 6 j), .int p2]) (kQi D A (sp_X2_needsAreDone S j p2) L ad (cK cI cJ ad ce S)) 0 0 A := by
  refine Met.ofW (cc := cX2_needsAreDone) (maxL := 3) (ret := (some .boolean)) (by decide) rfl ?_
  intro p e s m args below meth c s₁ B hml hv
  obtain ⟨hav, hsz, hP, hD, hK, hO⟩ := hv
  have hx := B.exec
  have hb := B.bytes
  have hr := B.returns
  have hts : ∀ w ∈ BIG, w.before args s = true := fun w h => atoms_spec (ws := bw_X2_needsAreDone) B.pre w (List.mem_cons_of_mem _ h)
  have hown : s.vm.findClass RX2 = some m.cls := findClass_of_methodNamed B.named
  have hlocks := B.notSynchronized
  subst hsz
  have hw := wk.start hP hD
  refine k_start (by rfl) hav (Nat.le_of_ble_eq_true rfl) (fun ls hl => ?_)
  have hl : lv_has ls 3 [(0, .ref (ad 1 0)), (1, .ref (ad 6 j)), (2, .int p2)] := hl
  have hE : sp_X2_needsAreDone S j p2 = sp_X2_needsAreDone S j p2 := rfl
  refine lv_iload_n hx hb dX2_needsAreDone_0 rfl (lv_at hl 2 rfl) ?_
  refine lv_if_lt (tgt := 10) hx hb dX2_needsAreDone_1 (by decide) (fun c_1 => ?_) (fun c_1 => ?_)
  · have hE := hE.trans (if_pos c_1)
    refine lv_iconst (v := 0) hx hb dX2_needsAreDone_10 (by decide) ?_
    exact k_iret hx hb hr hlocks rfl hw hE rfl dX2_needsAreDone_11
  · have hE := hE.trans (if_neg c_1)
    refine lv_iload_n hx hb dX2_needsAreDone_4 rfl (lv_at hl 2 rfl) ?_
    refine lv_bipush (v := 12) hx hb dX2_needsAreDone_5 (by decide) ?_
    refine lv_icmp_lt (tgt := 12) hx hb dX2_needsAreDone_7 (by decide) (fun c_2 => ?_) (fun c_2 => ?_)
    · have hE := hE.trans (if_pos c_2)
      refine lv_aload_n hx hb dX2_needsAreDone_12 rfl (lv_at hl 0 rfl) ?_
      refine k_get (C := RX2) (T := TX2) (N := 8) (v := .ref (ad 9 0)) hx hb hts inB_X2 hown hK hw (hL 1 0 rfl) cke_1 rfl 2 (by decide) (hts _ w_f_X2_18) (fun _ h9 => h9) rfl dX2_needsAreDone_13 ?_
      refine lv_iload_n hx hb dX2_needsAreDone_16 rfl (lv_at hl 2 rfl) ?_
      refine k_ald hx hb hK hw (hL 9 0 rfl) 0 cke_9 rfl (k_in' c_1 c_2 (by decide)) dX2_needsAreDone_17 ?_
      refine lv_aload_n hx hb dX2_needsAreDone_18 rfl (lv_at hl 1 rfl) ?_
      refine k_get (C := RX1) (T := TX1) (N := 8) (v := .int (S 6 j 0)) hx hb hts inB_X1 hown hK hw (hL 6 j (cidJ6 hj)) cke_6 rfl 5 (by decide) (hts _ w_f_X2_37) (fun _ h9 => h9) rfl dX2_needsAreDone_19 ?_
      refine lv_iand hx hb dX2_needsAreDone_22 ?_
      refine lv_aload_n hx hb dX2_needsAreDone_23 rfl (lv_at hl 1 rfl) ?_
      refine lv_iconst (v := 2) hx hb dX2_needsAreDone_24 (by decide) ?_
      refine k_ci0 hw (k_rV (As := [.int 2]) (rest := [.int ((S 9 0 p2.toNatClampNeg) &&& (S 6 j 0))]) ⟨hx, hb, hml, hown, hts⟩ hK hO hw (ct_X1_stepsIn hL S (SF.ci (SF.rf _) hI) j hj 2 _ (wk.hA hw hA)) (cwV 1 hts (gB_V w_ml_X2_42 w_im_X1_stepsIn w_se_X1_stepsIn w_in_X1 w_co_X1_stepsIn) rfl rfl rfl (by decide +kernel) ⟨by decide, by decide⟩) (hL 6 j (cidJ6 hj)) cke_6 rfl rfl hl.1 rfl (Nat.le_of_ble_eq_true rfl) dX2_needsAreDone_25 ⟨Nat.le_of_ble_eq_true rfl, Nat.le_of_ble_eq_true rfl⟩) (fun H locs hw => ?_)
      refine lv_iconst (v := (-1)) hx hb dX2_needsAreDone_28 (by decide) ?_
      refine lv_ixor hx hb dX2_needsAreDone_29 ?_
      refine lv_iand hx hb dX2_needsAreDone_30 ?_
      refine lv_if_ne (tgt := 38) hx hb dX2_needsAreDone_31 (by decide) (fun c_3 => ?_) (fun c_3 => ?_)
      · have hE := hE.trans (if_neg c_3)
        refine lv_iconst (v := 0) hx hb dX2_needsAreDone_38 (by decide) ?_
        exact k_iret hx hb hr hlocks rfl hw hE rfl dX2_needsAreDone_39
      · have hE := hE.trans (if_pos c_3)
        refine lv_iconst (v := 1) hx hb dX2_needsAreDone_34 (by decide) ?_
        refine lv_goto (tgt := 39) hx hb dX2_needsAreDone_35 (by decide) ?_
        exact k_iret hx hb hr hlocks rfl hw hE rfl dX2_needsAreDone_39
    · have hE := hE.trans (if_neg c_2)
      refine lv_iconst (v := 0) hx hb dX2_needsAreDone_10 (by decide) ?_
      exact k_iret hx hb hr hlocks rfl hw hE rfl dX2_needsAreDone_11

theorem bz_X2_needsAreDone (S : (Nat → Nat → Nat → Int32)) (j : Nat) (p2 : Int32) : sp_X2_needsAreDone S j p2 = 0 ∨ sp_X2_needsAreDone S j p2 = 1 := by
  unfold sp_X2_needsAreDone
  repeat' split
  all_goals first | exact Or.inl rfl | exact Or.inr rfl | exact bz_X5_has _ _ | exact bz_X5_isWithin _ _ _ | exact bz_X5_isOfKind _ _ | exact bz_X1_isIn _ _ _ _ | exact bz_X3_hasPiece _ _ | exact bz_X2_knows _ _ | skip

abbrev bw_X2_lengthFor : List Cond := .code yX2_lengthFor cX2_lengthFor 6 (some .int) :: BIG
abbrev rm_X2_lengthFor : Room := { frames := 1, cells := 0, slots := 0, locals := 23 }
noncomputable def lp_X2_lengthFor_61 (S : (Nat → Nat → Nat → Int32)) (j : Nat) (p2 : Int32) : Nat → Nat → Int32 → Int32
  | 0, i, v3 => (v3)
  | k + 1, i, v3 => if S 7 0 i = 0 then (if sp_X5_has (sp_X1_stepsIn S j 2) (nI i) = 0 then (lp_X2_lengthFor_61 S j p2 k (i + 1) v3) else (lp_X2_lengthFor_61 S j p2 k (i + 1) (v3 &&& ((S 10 0 i) ^^^ (-1))))) else (lp_X2_lengthFor_61 S j p2 k (i + 1) v3)
theorem lz_lp_X2_lengthFor_61 (S : (Nat → Nat → Nat → Int32)) (j : Nat) (p2 : Int32) (i : Nat) (v3 : Int32) : lp_X2_lengthFor_61 S j p2 0 i v3 = (v3) := rfl
noncomputable def sp_X2_lengthFor (S : (Nat → Nat → Nat → Int32)) (j : Nat) (p2 : Int32) : Int32 := if p2 < 0 then ((-1)) else (if p2 < 12 then (if S 24 j p2.toNatClampNeg = 0 then (if S 7 0 p2.toNatClampNeg = 0 then ((S 8 0 p2.toNatClampNeg) + (((sp_J6_bitCount_0f7a4 (lp_X2_lengthFor_61 S j p2 12 0 (S 10 0 p2.toNatClampNeg))) + 1) / 2)) else (S 8 0 p2.toNatClampNeg)) else (S 26 j p2.toNatClampNeg)) else ((-1)))
set_option maxHeartbeats 1000000 in
set_option maxRecDepth 100000 in
theorem ct_X2_lengthFor {l : Launch} {D : va_G} {cI cG cJ cO : ClassId} {K0 : Nat → Nat} {A : Nat → Prop} {L : List (Nat × Nat)} {ad : Nat → Nat → Nat} {ce : Nat → Nat → va_E} (hL : ∀ f o, cid f o = true → (f, o) ∈ L) (S : (Nat → Nat → Nat → Int32)) (hI : CI S) (j : Nat) (hj : j < 8) (p2 : Int32) (sz : Nat) (hA : ∀ q, sz ≤ q → A q) : Met l yX2_lengthFor bw_X2_lengthFor rm_X2_lengthFor (kP D (ktys cI cG cJ cO) K0 A L ad (cK cI cJ ad ce S) sz [.ref (ad 1 0), .ref (ad 6 j), .int p2]) (kQi D A (sp_X2_lengthFor S j p2) L ad (cK cI cJ ad ce S)) 0 0 A := by
  refine Met.ofW (cc := cX2_lengthFor) (maxL := 6) (ret := (some .int)) (by decide) rfl ?_
  intro p e s m args below meth c s₁ B hml hv
  obtain ⟨hav, hsz, hP, hD, hK, hO⟩ := hv
  have hx := B.exec
  have hb := B.bytes
  have hr := B.returns
  have hts : ∀ w ∈ BIG, w.before args s = true := fun w h => atoms_spec (ws := bw_X2_lengthFor) B.pre w (List.mem_cons_of_mem _ h)
  have hown : s.vm.findClass RX2 = some m.cls := findClass_of_methodNamed B.named
  have hlocks := B.notSynchronized
  subst hsz
  have hw := wk.start hP hD
  refine k_start (by rfl) hav (Nat.le_of_ble_eq_true rfl) (fun ls hl => ?_)
  have hl : lv_has ls 6 [(0, .ref (ad 1 0)), (1, .ref (ad 6 j)), (2, .int p2)] := hl
  have hE : sp_X2_lengthFor S j p2 = sp_X2_lengthFor S j p2 := rfl
  refine lv_iload_n hx hb dX2_lengthFor_0 rfl (lv_at hl 2 rfl) ?_
  refine lv_if_lt (tgt := 10) hx hb dX2_lengthFor_1 (by decide) (fun c_1 => ?_) (fun c_1 => ?_)
  · have hE := hE.trans (if_pos c_1)
    refine lv_iconst (v := (-1)) hx hb dX2_lengthFor_10 (by decide) ?_
    exact k_iret hx hb hr hlocks rfl hw hE rfl dX2_lengthFor_11
  · have hE := hE.trans (if_neg c_1)
    refine lv_iload_n hx hb dX2_lengthFor_4 rfl (lv_at hl 2 rfl) ?_
    refine lv_bipush (v := 12) hx hb dX2_lengthFor_5 (by decide) ?_
    refine lv_icmp_lt (tgt := 12) hx hb dX2_lengthFor_7 (by decide) (fun c_2 => ?_) (fun c_2 => ?_)
    · have hE := hE.trans (if_pos c_2)
      refine lv_aload_n hx hb dX2_lengthFor_12 rfl (lv_at hl 1 rfl) ?_
      refine k_get (C := RX1) (T := TX1) (N := 8) (v := .ref (ad 24 j)) hx hb hts inB_X1 hown hK hw (hL 6 j (cidJ6 hj)) cke_6 rfl 0 (by decide) (hts _ w_f_X2_46) (fun _ h9 => h9) rfl dX2_lengthFor_13 ?_
      refine lv_iload_n hx hb dX2_lengthFor_16 rfl (lv_at hl 2 rfl) ?_
      refine k_ald hx hb hK hw (hL 24 j (cidJ24 hj)) 0 cke_24 rfl (k_in' c_1 c_2 (by decide)) dX2_lengthFor_17 ?_
      refine lv_if_eq (tgt := 28) hx hb dX2_lengthFor_18 (by decide) (fun c_3 => ?_) (fun c_3 => ?_)
      · have hE := hE.trans (if_pos c_3)
        refine lv_aload_n hx hb dX2_lengthFor_28 rfl (lv_at hl 0 rfl) ?_
        refine k_get (C := RX2) (T := TX2) (N := 8) (v := .ref (ad 7 0)) hx hb hts inB_X2 hown hK hw (hL 1 0 rfl) cke_1 rfl 0 (by decide) (hts _ w_f_X2_9) (fun _ h9 => h9) rfl dX2_lengthFor_29 ?_
        refine lv_iload_n hx hb dX2_lengthFor_32 rfl (lv_at hl 2 rfl) ?_
        refine k_ald hx hb hK hw (hL 7 0 rfl) 0 cke_7 rfl (k_in' c_1 c_2 (by decide)) dX2_lengthFor_33 ?_
        refine lv_if_eq (tgt := 44) hx hb dX2_lengthFor_34 (by decide) (fun c_4 => ?_) (fun c_4 => ?_)
        · have hE := hE.trans (if_pos c_4)
          refine lv_aload_n hx hb dX2_lengthFor_44 rfl (lv_at hl 0 rfl) ?_
          refine k_get (C := RX2) (T := TX2) (N := 8) (v := .ref (ad 10 0)) hx hb hts inB_X2 hown hK hw (hL 1 0 rfl) cke_1 rfl 3 (by decide) (hts _ w_f_X2_21) (fun _ h9 => h9) rfl dX2_lengthFor_45 ?_
          refine lv_iload_n hx hb dX2_lengthFor_48 rfl (lv_at hl 2 rfl) ?_
          refine k_ald hx hb hK hw (hL 10 0 rfl) 0 cke_10 rfl (k_in' c_1 c_2 (by decide)) dX2_lengthFor_49 ?_
          refine lv_istore_n (lv' := [(3, .int (S 10 0 p2.toNatClampNeg)), (0, .ref (ad 1 0)), (1, .ref (ad 6 j)), (2, .int p2)]) hx hb dX2_lengthFor_50 rfl hl (by decide) rfl (fun ls hl => ?_)
          refine lv_aload_n hx hb dX2_lengthFor_51 rfl (lv_at hl 2 rfl) ?_
          refine lv_iconst (v := 2) hx hb dX2_lengthFor_52 (by decide) ?_
          refine k_ci0 hw (k_rV (As := [.int 2]) (rest := []) ⟨hx, hb, hml, hown, hts⟩ hK hO hw (ct_X1_stepsIn hL S (SF.ci (SF.rf _) hI) j hj 2 _ (wk.hA hw hA)) (cwV 1 hts (gB_V w_ml_X2_42 w_im_X1_stepsIn w_se_X1_stepsIn w_in_X1 w_co_X1_stepsIn) rfl rfl rfl (by decide +kernel) ⟨by decide, by decide⟩) (hL 6 j (cidJ6 hj)) cke_6 rfl rfl hl.1 rfl (Nat.le_of_ble_eq_true rfl) dX2_lengthFor_53 ⟨Nat.le_of_ble_eq_true rfl, Nat.le_of_ble_eq_true rfl⟩) (fun H locs hw => ?_)
          refine lv_istore (lv' := [(4, .int (sp_X1_stepsIn S j 2)), (3, .int (S 10 0 p2.toNatClampNeg)), (0, .ref (ad 1 0)), (1, .ref (ad 6 j)), (2, .int p2)]) hx hb dX2_lengthFor_56 hl (by decide) rfl (fun ls hl => ?_)
          refine lv_iconst (v := 0) hx hb dX2_lengthFor_58 (by decide) ?_
          refine lv_istore (lv' := [(5, .int 0), (4, .int (sp_X1_stepsIn S j 2)), (3, .int (S 10 0 p2.toNatClampNeg)), (0, .ref (ad 1 0)), (1, .ref (ad 6 j)), (2, .int p2)]) hx hb dX2_lengthFor_59 hl (by decide) rfl (fun ls hl => ?_)
          have key_61 : ∀ (k i : Nat) (v3 : Int32) (H : Heap) (locs : List Loc) (ls : Array Slot), i + k = 12 → (lp_X2_lengthFor_61 S j p2 12 0 (S 10 0 p2.toNatClampNeg)) = lp_X2_lengthFor_61 S j p2 k i v3 → wk D A L ad (cK cI cJ ad ce S) s.heap H locs → lv_has ls 6 [(0, .ref (ad 1 0)), (1, .ref (ad 6 j)), (2, .int p2), (3, .int v3), (4, .int (sp_X1_stepsIn S j 2)), (5, .int (nI i))] → W p l e (headSpec bw_X2_lengthFor rm_X2_lengthFor).room s m args below meth c H locs 0 0 (MQ below (kQi D A (sp_X2_lengthFor S j p2) L ad (cK cI cJ ad ce S)) args s 0 0 A) (F0 m 61 ls []) := by
            intro k
            induction k with
            | zero =>
              intro i v3 H locs ls hk hV hw hl
              have hV := hV.trans (lz_lp_X2_lengthFor_61 S j p2 i v3)
              obtain rfl : v3 = (lp_X2_lengthFor_61 S j p2 12 0 (S 10 0 p2.toNatClampNeg)) := hV.symm
              refine lv_iload hx hb dX2_lengthFor_61 (lv_at hl 5 rfl) ?_
              refine lv_bipush (v := 12) hx hb dX2_lengthFor_63 (by decide) ?_
              refine lv_icmp_ge (tgt := 106) hx hb dX2_lengthFor_65 (by decide) (fun _ => ?_) (fun h => absurd (lp_o rfl hk (by decide)) h)
              refine lv_aload_n hx hb dX2_lengthFor_106 rfl (lv_at hl 0 rfl) ?_
              refine k_get (C := RX2) (T := TX2) (N := 8) (v := .ref (ad 8 0)) hx hb hts inB_X2 hown hK hw (hL 1 0 rfl) cke_1 rfl 1 (by decide) (hts _ w_f_X2_15) (fun _ h9 => h9) rfl dX2_lengthFor_107 ?_
              refine lv_iload_n hx hb dX2_lengthFor_110 rfl (lv_at hl 2 rfl) ?_
              refine k_ald hx hb hK hw (hL 8 0 rfl) 0 cke_8 rfl (k_in' c_1 c_2 (by decide)) dX2_lengthFor_111 ?_
              refine lv_iload_n hx hb dX2_lengthFor_112 rfl (lv_at hl 3 rfl) ?_
              refine k_ci0 hw (k_rS (As := [.int (lp_X2_lengthFor_61 S j p2 12 0 (S 10 0 p2.toNatClampNeg))]) (rest := [.int (S 8 0 p2.toNatClampNeg)]) ⟨hx, hb, hml, hown, hts⟩ hK hO hw (ct_J6_bitCount_0f7a4 (lp_X2_lengthFor_61 S j p2 12 0 (S 10 0 p2.toNatClampNeg)) _ (wk.hA hw hA)) (va_cwS 1 hts (gB_S w_ml_X2_56 w_st_J6_bitCount_0f7a4 w_in_J6 w_co_J6_bitCount_0f7a4) rfl rfl rfl (by decide +kernel) ⟨by decide, by decide⟩) rfl hl.1 rfl (Nat.le_of_ble_eq_true rfl) dX2_lengthFor_113 ⟨Nat.le_of_ble_eq_true rfl, Nat.le_of_ble_eq_true rfl⟩) (fun H locs hw => ?_)
              refine lv_iconst (v := 1) hx hb dX2_lengthFor_116 (by decide) ?_
              refine lv_iadd hx hb dX2_lengthFor_117 ?_
              refine lv_iconst (v := 2) hx hb dX2_lengthFor_118 (by decide) ?_
              refine lv_idiv hx hb dX2_lengthFor_119 (by decide) ?_
              refine lv_iadd hx hb dX2_lengthFor_120 ?_
              exact k_iret hx hb hr hlocks rfl hw hE rfl dX2_lengthFor_121
            | succ k ih =>
              intro i v3 H locs ls hk hV hw hl
              refine lv_iload hx hb dX2_lengthFor_61 (lv_at hl 5 rfl) ?_
              refine lv_bipush (v := 12) hx hb dX2_lengthFor_63 (by decide) ?_
              refine lv_icmp_ge (tgt := 106) hx hb dX2_lengthFor_65 (by decide) (fun h => absurd h (lp_i rfl hk (by decide))) (fun _ => ?_)
              refine lv_aload_n hx hb dX2_lengthFor_68 rfl (lv_at hl 0 rfl) ?_
              refine k_get (C := RX2) (T := TX2) (N := 8) (v := .ref (ad 7 0)) hx hb hts inB_X2 hown hK hw (hL 1 0 rfl) cke_1 rfl 0 (by decide) (hts _ w_f_X2_9) (fun _ h9 => h9) rfl dX2_lengthFor_69 ?_
              refine lv_iload hx hb dX2_lengthFor_72 (lv_at hl 5 rfl) ?_
              refine k_aldn hx hb hK hw (hL 7 0 rfl) 0 cke_7 rfl (lp_l hk) (by decide) dX2_lengthFor_74 ?_
              refine lv_if_ne (tgt := 100) hx hb dX2_lengthFor_75 (by decide) (fun c_5 => ?_) (fun c_5 => ?_)
              · have hV := hV.trans (if_neg c_5)
                refine lv_iinc (v := (nI (i + 1))) (lv' := [(5, .int (nI (i + 1))), (0, .ref (ad 1 0)), (1, .ref (ad 6 j)), (2, .int p2), (3, .int v3), (4, .int (sp_X1_stepsIn S j 2))]) hx hb dX2_lengthFor_100 hl (k := 5) rfl (nI_1 _) (by decide) rfl (fun ls hl => ?_)
                refine lv_goto (tgt := 61) hx hb dX2_lengthFor_103 (by decide) ?_
                exact ih (i + 1) v3 _ _ _ (lp_s hk) hV hw (lv_sub hl [1, 2, 3, 4, 5, 0] rfl)
              · have hV := hV.trans (if_pos c_5)
                refine lv_iload hx hb dX2_lengthFor_78 (lv_at hl 4 rfl) ?_
                refine lv_iload hx hb dX2_lengthFor_80 (lv_at hl 5 rfl) ?_
                refine k_ci0 hw (k_rSN (As := [.int (sp_X1_stepsIn S j 2), .int (nI i)]) (rest := []) ⟨hx, hb, hml, hown, hts⟩ hK hO hw (ct_X5_has (sp_X1_stepsIn S j 2) (nI i) _ (wk.hA hw hA)) (⟨va_cnB 2 hts (gB_0 w_co_X5_has) rfl rfl rfl (hO.2.2.1 _ w_mn_X2_52) (hts _ w_in_X5) (by decide +kernel) ⟨by decide, by decide⟩, hts _ w_st_X5_has, trivial⟩) rfl hl.1 rfl (Nat.le_of_ble_eq_true rfl) dX2_lengthFor_82 ⟨Nat.le_of_ble_eq_true rfl, Nat.le_of_ble_eq_true rfl⟩) (fun H locs hw => ?_)
                refine lv_if_eq (tgt := 100) hx hb dX2_lengthFor_85 (by decide) (fun c_6 => ?_) (fun c_6 => ?_)
                · have hV := hV.trans (if_pos c_6)
                  refine lv_iinc (v := (nI (i + 1))) (lv' := [(5, .int (nI (i + 1))), (0, .ref (ad 1 0)), (1, .ref (ad 6 j)), (2, .int p2), (3, .int v3), (4, .int (sp_X1_stepsIn S j 2))]) hx hb dX2_lengthFor_100 hl (k := 5) rfl (nI_1 _) (by decide) rfl (fun ls hl => ?_)
                  refine lv_goto (tgt := 61) hx hb dX2_lengthFor_103 (by decide) ?_
                  exact ih (i + 1) v3 _ _ _ (lp_s hk) hV hw (lv_sub hl [1, 2, 3, 4, 5, 0] rfl)
                · have hV := hV.trans (if_neg c_6)
                  refine lv_iload_n hx hb dX2_lengthFor_88 rfl (lv_at hl 3 rfl) ?_
                  refine lv_aload_n hx hb dX2_lengthFor_89 rfl (lv_at hl 0 rfl) ?_
                  refine k_get (C := RX2) (T := TX2) (N := 8) (v := .ref (ad 10 0)) hx hb hts inB_X2 hown hK hw (hL 1 0 rfl) cke_1 rfl 3 (by decide) (hts _ w_f_X2_21) (fun _ h9 => h9) rfl dX2_lengthFor_90 ?_
                  refine lv_iload hx hb dX2_lengthFor_93 (lv_at hl 5 rfl) ?_
                  refine k_aldn hx hb hK hw (hL 10 0 rfl) 0 cke_10 rfl (lp_l hk) (by decide) dX2_lengthFor_95 ?_
                  refine lv_iconst (v := (-1)) hx hb dX2_lengthFor_96 (by decide) ?_
                  refine lv_ixor hx hb dX2_lengthFor_97 ?_
                  refine lv_iand hx hb dX2_lengthFor_98 ?_
                  refine lv_istore_n (lv' := [(3, .int (v3 &&& ((S 10 0 i) ^^^ (-1)))), (0, .ref (ad 1 0)), (1, .ref (ad 6 j)), (2, .int p2), (4, .int (sp_X1_stepsIn S j 2)), (5, .int (nI i))]) hx hb dX2_lengthFor_99 rfl hl (by decide) rfl (fun ls hl => ?_)
                  refine lv_iinc (v := (nI (i + 1))) (lv' := [(5, .int (nI (i + 1))), (3, .int (v3 &&& ((S 10 0 i) ^^^ (-1)))), (0, .ref (ad 1 0)), (1, .ref (ad 6 j)), (2, .int p2), (4, .int (sp_X1_stepsIn S j 2))]) hx hb dX2_lengthFor_100 hl (k := 5) rfl (nI_1 _) (by decide) rfl (fun ls hl => ?_)
                  refine lv_goto (tgt := 61) hx hb dX2_lengthFor_103 (by decide) ?_
                  exact ih (i + 1) (v3 &&& ((S 10 0 i) ^^^ (-1))) _ _ _ (lp_s hk) hV hw (lv_sub hl [2, 3, 4, 1, 5, 0] rfl)
          exact key_61 12 0 (S 10 0 p2.toNatClampNeg) _ _ _ (Nat.zero_add _) rfl hw (lv_sub hl [3, 4, 5, 2, 1, 0] rfl)
        · have hE := hE.trans (if_neg c_4)
          refine lv_aload_n hx hb dX2_lengthFor_37 rfl (lv_at hl 0 rfl) ?_
          refine k_get (C := RX2) (T := TX2) (N := 8) (v := .ref (ad 8 0)) hx hb hts inB_X2 hown hK hw (hL 1 0 rfl) cke_1 rfl 1 (by decide) (hts _ w_f_X2_15) (fun _ h9 => h9) rfl dX2_lengthFor_38 ?_
          refine lv_iload_n hx hb dX2_lengthFor_41 rfl (lv_at hl 2 rfl) ?_
          refine k_ald hx hb hK hw (hL 8 0 rfl) 0 cke_8 rfl (k_in' c_1 c_2 (by decide)) dX2_lengthFor_42 ?_
          exact k_iret hx hb hr hlocks rfl hw hE rfl dX2_lengthFor_43
      · have hE := hE.trans (if_neg c_3)
        refine lv_aload_n hx hb dX2_lengthFor_21 rfl (lv_at hl 1 rfl) ?_
        refine k_get (C := RX1) (T := TX1) (N := 8) (v := .ref (ad 26 j)) hx hb hts inB_X1 hown hK hw (hL 6 j (cidJ6 hj)) cke_6 rfl 2 (by decide) (hts _ w_f_X2_49) (fun _ h9 => h9) rfl dX2_lengthFor_22 ?_
        refine lv_iload_n hx hb dX2_lengthFor_25 rfl (lv_at hl 2 rfl) ?_
        refine k_ald hx hb hK hw (hL 26 j (cidJ26 hj)) 0 cke_26 rfl (k_in' c_1 c_2 (by decide)) dX2_lengthFor_26 ?_
        exact k_iret hx hb hr hlocks rfl hw hE rfl dX2_lengthFor_27
    · have hE := hE.trans (if_neg c_2)
      refine lv_iconst (v := (-1)) hx hb dX2_lengthFor_10 (by decide) ?_
      exact k_iret hx hb hr hlocks rfl hw hE rfl dX2_lengthFor_11

abbrev bw_X2_rightsOf : List Cond := .code yX2_rightsOf cX2_rightsOf 5 (some .int) :: BIG
abbrev rm_X2_rightsOf : Room := { frames := 1, cells := 0, slots := 0, locals := 23 }
noncomputable def lp_X2_rightsOf_11 (S : (Nat → Nat → Nat → Int32)) (j : Nat) : Nat → Nat → Int32 → Int32
  | 0, i, v3 => (v3)
  | k + 1, i, v3 => if (S 12 0 i) &&& ((sp_X1_stepsIn S j 2) ^^^ (-1)) = 0 then (lp_X2_rightsOf_11 S j k (i + 1) (v3 ||| (1 <<< ((nI i) &&& 31)))) else (lp_X2_rightsOf_11 S j k (i + 1) v3)
theorem lz_lp_X2_rightsOf_11 (S : (Nat → Nat → Nat → Int32)) (j : Nat) (i : Nat) (v3 : Int32) : lp_X2_rightsOf_11 S j 0 i v3 = (v3) := rfl
noncomputable def sp_X2_rightsOf (S : (Nat → Nat → Nat → Int32)) (j : Nat) : Int32 := (lp_X2_rightsOf_11 S j ((S 1 0 1).toNatClampNeg) 0 0)
set_option maxHeartbeats 1000000 in
set_option maxRecDepth 100000 in
theorem ct_X2_rightsOf {l : Launch} {D : va_G} {cI cG cJ cO : ClassId} {K0 : Nat → Nat} {A : Nat → Prop} {L : List (Nat × Nat)} {ad : Nat → Nat → Nat} {ce : Nat → Nat → va_E} (hL : ∀ f o, cid f o = true → (f, o) ∈ L) (S : (Nat → Nat → Nat → Int32)) (hI : CI S) (j : Nat) (hj : j < 8) (sz : Nat) (hA : ∀ q, sz ≤ q → A q) : Met l yX2_rightsOf bw_X2_rightsOf rm_X2_rightsOf (kP D (ktys cI cG cJ cO) K0 A L ad (cK cI cJ ad ce S) sz [.ref (ad 1 0), .ref (ad 6 j)]) (kQi D A (sp_X2_rightsOf S j) L ad (cK cI cJ ad ce S)) 0 0 A := by
  refine Met.ofW (cc := cX2_rightsOf) (maxL := 5) (ret := (some .int)) (by decide) rfl ?_
  intro p e s m args below meth c s₁ B hml hv
  obtain ⟨hav, hsz, hP, hD, hK, hO⟩ := hv
  have hx := B.exec
  have hb := B.bytes
  have hr := B.returns
  have hts : ∀ w ∈ BIG, w.before args s = true := fun w h => atoms_spec (ws := bw_X2_rightsOf) B.pre w (List.mem_cons_of_mem _ h)
  have hown : s.vm.findClass RX2 = some m.cls := findClass_of_methodNamed B.named
  have hlocks := B.notSynchronized
  subst hsz
  have hw := wk.start hP hD
  refine k_start (by rfl) hav (Nat.le_of_ble_eq_true rfl) (fun ls hl => ?_)
  have hl : lv_has ls 5 [(0, .ref (ad 1 0)), (1, .ref (ad 6 j))] := hl
  have hE : sp_X2_rightsOf S j = (lp_X2_rightsOf_11 S j ((S 1 0 1).toNatClampNeg) 0 0) := by unfold sp_X2_rightsOf; rfl
  refine lv_aload_n hx hb dX2_rightsOf_0 rfl (lv_at hl 1 rfl) ?_
  refine lv_iconst (v := 2) hx hb dX2_rightsOf_1 (by decide) ?_
  refine k_ci0 hw (k_rV (As := [.int 2]) (rest := []) ⟨hx, hb, hml, hown, hts⟩ hK hO hw (ct_X1_stepsIn hL S (SF.ci (SF.rf _) hI) j hj 2 _ (wk.hA hw hA)) (cwV 1 hts (gB_V w_ml_X2_42 w_im_X1_stepsIn w_se_X1_stepsIn w_in_X1 w_co_X1_stepsIn) rfl rfl rfl (by decide +kernel) ⟨by decide, by decide⟩) (hL 6 j (cidJ6 hj)) cke_6 rfl rfl hl.1 rfl (Nat.le_of_ble_eq_true rfl) dX2_rightsOf_2 ⟨Nat.le_of_ble_eq_true rfl, Nat.le_of_ble_eq_true rfl⟩) (fun H locs hw => ?_)
  refine lv_istore_n (lv' := [(2, .int (sp_X1_stepsIn S j 2)), (0, .ref (ad 1 0)), (1, .ref (ad 6 j))]) hx hb dX2_rightsOf_5 rfl hl (by decide) rfl (fun ls hl => ?_)
  refine lv_iconst (v := 0) hx hb dX2_rightsOf_6 (by decide) ?_
  refine lv_istore_n (lv' := [(3, .int 0), (2, .int (sp_X1_stepsIn S j 2)), (0, .ref (ad 1 0)), (1, .ref (ad 6 j))]) hx hb dX2_rightsOf_7 rfl hl (by decide) rfl (fun ls hl => ?_)
  refine lv_iconst (v := 0) hx hb dX2_rightsOf_8 (by decide) ?_
  refine lv_istore (lv' := [(4, .int 0), (3, .int 0), (2, .int (sp_X1_stepsIn S j 2)), (0, .ref (ad 1 0)), (1, .ref (ad 6 j))]) hx hb dX2_rightsOf_9 hl (by decide) rfl (fun ls hl => ?_)
  have key_11 : ∀ (k i : Nat) (v3 : Int32) (H : Heap) (locs : List Loc) (ls : Array Slot), i + k = (S 1 0 1).toNatClampNeg → (lp_X2_rightsOf_11 S j ((S 1 0 1).toNatClampNeg) 0 0) = lp_X2_rightsOf_11 S j k i v3 → wk D A L ad (cK cI cJ ad ce S) s.heap H locs → lv_has ls 5 [(0, .ref (ad 1 0)), (1, .ref (ad 6 j)), (2, .int (sp_X1_stepsIn S j 2)), (3, .int v3), (4, .int (nI i))] → W p l e (headSpec bw_X2_rightsOf rm_X2_rightsOf).room s m args below meth c H locs 0 0 (MQ below (kQi D A (sp_X2_rightsOf S j) L ad (cK cI cJ ad ce S)) args s 0 0 A) (F0 m 11 ls []) := by
    intro k
    induction k with
    | zero =>
      intro i v3 H locs ls hk hV hw hl
      have hV := hV.trans (lz_lp_X2_rightsOf_11 S j i v3)
      obtain rfl : v3 = (lp_X2_rightsOf_11 S j ((S 1 0 1).toNatClampNeg) 0 0) := hV.symm
      refine lv_iload hx hb dX2_rightsOf_11 (lv_at hl 4 rfl) ?_
      refine lv_aload_n hx hb dX2_rightsOf_13 rfl (lv_at hl 0 rfl) ?_
      refine k_get (C := RX2) (T := TX2) (N := 8) (v := .int (S 1 0 1)) hx hb hts inB_X2 hown hK hw (hL 1 0 rfl) cke_1 rfl 7 (by decide) (hts _ w_f_X2_34) (fun _ h9 => h9) rfl dX2_rightsOf_14 ?_
      refine lv_icmp_ge (tgt := 47) hx hb dX2_rightsOf_17 (by decide) (fun _ => ?_) (fun h => absurd (lp_o (SF.b2 (SF.rf _) hI) hk (cn_lt _)) h)
      refine lv_iload_n hx hb dX2_rightsOf_47 rfl (lv_at hl 3 rfl) ?_
      exact k_iret hx hb hr hlocks rfl hw hE rfl dX2_rightsOf_48
    | succ k ih =>
      intro i v3 H locs ls hk hV hw hl
      refine lv_iload hx hb dX2_rightsOf_11 (lv_at hl 4 rfl) ?_
      refine lv_aload_n hx hb dX2_rightsOf_13 rfl (lv_at hl 0 rfl) ?_
      refine k_get (C := RX2) (T := TX2) (N := 8) (v := .int (S 1 0 1)) hx hb hts inB_X2 hown hK hw (hL 1 0 rfl) cke_1 rfl 7 (by decide) (hts _ w_f_X2_34) (fun _ h9 => h9) rfl dX2_rightsOf_14 ?_
      refine lv_icmp_ge (tgt := 47) hx hb dX2_rightsOf_17 (by decide) (fun h => absurd h (lp_i (SF.b2 (SF.rf _) hI) hk (cn_lt _))) (fun _ => ?_)
      refine lv_aload_n hx hb dX2_rightsOf_20 rfl (lv_at hl 0 rfl) ?_
      refine k_get (C := RX2) (T := TX2) (N := 8) (v := .ref (ad 12 0)) hx hb hts inB_X2 hown hK hw (hL 1 0 rfl) cke_1 rfl 5 (by decide) (hts _ w_f_X2_27) (fun _ h9 => h9) rfl dX2_rightsOf_21 ?_
      refine lv_iload hx hb dX2_rightsOf_24 (lv_at hl 4 rfl) ?_
      refine k_aldn hx hb hK hw (hL 12 0 rfl) 0 cke_12 rfl (Nat.lt_of_lt_of_le (lp_l hk) (CI.n2 hI)) (by decide) dX2_rightsOf_26 ?_
      refine lv_iload_n hx hb dX2_rightsOf_27 rfl (lv_at hl 2 rfl) ?_
      refine lv_iconst (v := (-1)) hx hb dX2_rightsOf_28 (by decide) ?_
      refine lv_ixor hx hb dX2_rightsOf_29 ?_
      refine lv_iand hx hb dX2_rightsOf_30 ?_
      refine lv_if_ne (tgt := 41) hx hb dX2_rightsOf_31 (by decide) (fun c_1 => ?_) (fun c_1 => ?_)
      · have hV := hV.trans (if_neg c_1)
        refine lv_iinc (v := (nI (i + 1))) (lv' := [(4, .int (nI (i + 1))), (0, .ref (ad 1 0)), (1, .ref (ad 6 j)), (2, .int (sp_X1_stepsIn S j 2)), (3, .int v3)]) hx hb dX2_rightsOf_41 hl (k := 4) rfl (nI_1 _) (by decide) rfl (fun ls hl => ?_)
        refine lv_goto (tgt := 11) hx hb dX2_rightsOf_44 (by decide) ?_
        exact ih (i + 1) v3 _ _ _ (lp_s hk) hV hw (lv_sub hl [1, 2, 3, 4, 0] rfl)
      · have hV := hV.trans (if_pos c_1)
        refine lv_iload_n hx hb dX2_rightsOf_34 rfl (lv_at hl 3 rfl) ?_
        refine lv_iconst (v := 1) hx hb dX2_rightsOf_35 (by decide) ?_
        refine lv_iload hx hb dX2_rightsOf_36 (lv_at hl 4 rfl) ?_
        refine lv_ishl hx hb dX2_rightsOf_38 ?_
        refine lv_ior hx hb dX2_rightsOf_39 ?_
        refine lv_istore_n (lv' := [(3, .int (v3 ||| (1 <<< ((nI i) &&& 31)))), (0, .ref (ad 1 0)), (1, .ref (ad 6 j)), (2, .int (sp_X1_stepsIn S j 2)), (4, .int (nI i))]) hx hb dX2_rightsOf_40 rfl hl (by decide) rfl (fun ls hl => ?_)
        refine lv_iinc (v := (nI (i + 1))) (lv' := [(4, .int (nI (i + 1))), (3, .int (v3 ||| (1 <<< ((nI i) &&& 31)))), (0, .ref (ad 1 0)), (1, .ref (ad 6 j)), (2, .int (sp_X1_stepsIn S j 2))]) hx hb dX2_rightsOf_41 hl (k := 4) rfl (nI_1 _) (by decide) rfl (fun ls hl => ?_)
        refine lv_goto (tgt := 11) hx hb dX2_rightsOf_44 (by decide) ?_
        exact ih (i + 1) (v3 ||| (1 <<< ((nI i) &&& 31))) _ _ _ (lp_s hk) hV hw (lv_sub hl [2, 3, 4, 1, 0] rfl)
  exact key_11 ((S 1 0 1).toNatClampNeg) 0 0 _ _ _ (Nat.zero_add _) rfl hw (lv_sub hl [3, 4, 2, 1, 0] rfl)

theorem id_ne {x : Int32} (h : 0 ≤ x.toInt) : ¬ x + 1 - 1 = -1 := by
  intro c
  have e : x + 1 - 1 = x := Int32.add_sub_cancel ..
  rw [e] at c
  subst c
  exact absurd h (by decide)
theorem ns_X3_addOrder {S : (Nat → Nat → Nat → Int32)} {p1 : Int32} {p2 : Int32} {p3 : Int32} (h : CI S) (c : (sp_X3_addOrder S p1 p2 p3).1 = -1) : (sp_X3_addOrder S p1 p2 p3).2 = S := by
  rw [un_X3_addOrder] at c ⊢
  unfold rw_X3_addOrder at c ⊢
  by_cases c0 : S 2 0 0 < 20
  · rw [if_pos c0] at c
    exact absurd c (id_ne h.2.2.1.1)
  · rw [if_neg c0]
theorem ns_X4_addSession {S : (Nat → Nat → Nat → Int32)} {p1 : Int32} {p2 : Int32} {p3 : Int32} (h : CI S) (c : (sp_X4_addSession S p1 p2 p3).1 = -1) : (sp_X4_addSession S p1 p2 p3).2 = S := by
  rw [un_X4_addSession] at c ⊢
  unfold rw_X4_addSession at c ⊢
  by_cases c0 : S 3 0 0 < 20
  · rw [if_pos c0] at c
    exact absurd c (id_ne h.2.2.2.1.1)
  · rw [if_neg c0]
theorem ns_X2_addStep {S : (Nat → Nat → Nat → Int32)} {p1 : Int32} {p2 : Int32} {p3 : Int32} {p4 : Int32} (h : CI S) (c : (sp_X2_addStep S p1 p2 p3 p4).1 = -1) : (sp_X2_addStep S p1 p2 p3 p4).2 = S := by
  rw [un_X2_addStep] at c ⊢
  unfold rw_X2_addStep at c ⊢
  by_cases c0 : S 1 0 0 < 12
  · rw [if_pos c0] at c
    exact absurd c (id_ne h.1.1)
  · rw [if_neg c0]
theorem ns_X2_addRight {S : (Nat → Nat → Nat → Int32)} {p1 : Int32} (h : CI S) (c : (sp_X2_addRight S p1).1 = -1) : (sp_X2_addRight S p1).2 = S := by
  rw [un_X2_addRight] at c ⊢
  unfold rw_X2_addRight at c ⊢
  by_cases c0 : S 1 0 1 < 6
  · rw [if_pos c0] at c
    exact absurd c (id_ne h.2.1.1)
  · rw [if_neg c0]
