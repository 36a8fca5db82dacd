abbrev bw_J6_bitCount_0f7a4 : List Cond := .code yJ6_bitCount_0f7a4 cJ6_bitCount_0f7a4 1 (some .int) :: BIG
abbrev rm_J6_bitCount_0f7a4 : Room := { frames := 0, cells := 0, slots := 0, locals := 0 }
def bc_1 (x : Int32) : Int32 := x - (((x.toUInt32 >>> ((1 : Int32).toUInt32 &&& Int32.toUInt32 31)).toInt32) &&& 1431655765)
def bc_2 (x : Int32) : Int32 := ((x) &&& 858993459) + ((((x).toUInt32 >>> ((2 : Int32).toUInt32 &&& Int32.toUInt32 31)).toInt32) &&& 858993459)
def bc_3 (x : Int32) : Int32 := ((x) + (((x).toUInt32 >>> ((4 : Int32).toUInt32 &&& Int32.toUInt32 31)).toInt32)) &&& 252645135
def bc_4 (x : Int32) : Int32 := (x) + (((x).toUInt32 >>> ((8 : Int32).toUInt32 &&& Int32.toUInt32 31)).toInt32)
def bc_5 (x : Int32) : Int32 := (x) + (((x).toUInt32 >>> ((16 : Int32).toUInt32 &&& Int32.toUInt32 31)).toInt32)
noncomputable def sp_J6_bitCount_0f7a4 (p1 : Int32) : Int32 := (bc_5 (bc_4 (bc_3 (bc_2 (bc_1 p1))))) &&& 63
set_option maxHeartbeats 1000000 in
set_option maxRecDepth 100000 in
theorem ct_J6_bitCount_0f7a4 {l : Launch} {D : va_G} {cI cG cJ cO : ClassId} {K0 : Nat → Nat} {A : Nat → Prop} {L : List (Nat × Nat)} {ad : Nat → Nat → Nat} {ce : Nat → Nat → va_E} (p1 : Int32) (sz : Nat) (hA : ∀ q, sz ≤ q → A q) : Met l yJ6_bitCount_0f7a4 bw_J6_bitCount_0f7a4 rm_J6_bitCount_0f7a4 (kP D (ktys cI cG cJ cO) K0 A L ad ce sz [.int p1]) (kQi D A (sp_J6_bitCount_0f7a4 p1) L ad ce) 0 0 A := by
  refine Met.ofW (cc := cJ6_bitCount_0f7a4) (maxL := 1) (ret := (some .int)) (by decide) rfl ?_
  intro p e s m args below meth c s₁ B hml hv
  obtain ⟨hav, hsz, hP, hD, hK, hO⟩ := hv
  have hx := B.exec
  have hb := B.bytes
  have hr := B.returns
  have hts : ∀ w ∈ BIG, w.before args s = true := fun w h => atoms_spec (ws := bw_J6_bitCount_0f7a4) B.pre w (List.mem_cons_of_mem _ h)
  have hown : s.vm.findClass RJ6 = some m.cls := findClass_of_methodNamed B.named
  have hlocks := B.notSynchronized
  subst hsz
  have hw := wk.start hP hD
  refine k_start (by rfl) hav (Nat.le_of_ble_eq_true rfl) (fun ls hl => ?_)
  have hl : lv_has ls 1 [(0, .int p1)] := hl
  have hE : sp_J6_bitCount_0f7a4 p1 = (bc_5 (bc_4 (bc_3 (bc_2 (bc_1 p1))))) &&& 63 := by unfold sp_J6_bitCount_0f7a4; rfl
  refine lv_iload_n hx hb dJ6_bitCount_0f7a4_0 rfl (lv_at hl 0 rfl) ?_
  refine lv_iload_n hx hb dJ6_bitCount_0f7a4_1 rfl (lv_at hl 0 rfl) ?_
  refine lv_iconst (v := 1) hx hb dJ6_bitCount_0f7a4_2 (by decide) ?_
  refine lv_iushr (v := (p1.toUInt32 >>> ((1 : Int32).toUInt32 &&& Int32.toUInt32 31)).toInt32) hx hb dJ6_bitCount_0f7a4_3 rfl ?_
  refine lv_ldcw hx hb hown (hts _ w_ct_J6_265) dJ6_bitCount_0f7a4_4 ?_
  refine lv_iand hx hb dJ6_bitCount_0f7a4_7 ?_
  refine lv_isub hx hb dJ6_bitCount_0f7a4_8 ?_
  refine lv_istore_n (lv' := [(0, .int (bc_1 p1))]) hx hb dJ6_bitCount_0f7a4_9 rfl hl (by decide) rfl (fun ls hl => ?_)
  refine lv_iload_n hx hb dJ6_bitCount_0f7a4_10 rfl (lv_at hl 0 rfl) ?_
  refine lv_ldcw hx hb hown (hts _ w_ct_J6_266) dJ6_bitCount_0f7a4_11 ?_
  refine lv_iand hx hb dJ6_bitCount_0f7a4_14 ?_
  refine lv_iload_n hx hb dJ6_bitCount_0f7a4_15 rfl (lv_at hl 0 rfl) ?_
  refine lv_iconst (v := 2) hx hb dJ6_bitCount_0f7a4_16 (by decide) ?_
  refine lv_iushr (v := ((bc_1 p1).toUInt32 >>> ((2 : Int32).toUInt32 &&& Int32.toUInt32 31)).toInt32) hx hb dJ6_bitCount_0f7a4_17 rfl ?_
  refine lv_ldcw hx hb hown (hts _ w_ct_J6_266) dJ6_bitCount_0f7a4_18 ?_
  refine lv_iand hx hb dJ6_bitCount_0f7a4_21 ?_
  refine lv_iadd hx hb dJ6_bitCount_0f7a4_22 ?_
  refine lv_istore_n (lv' := [(0, .int (bc_2 (bc_1 p1)))]) hx hb dJ6_bitCount_0f7a4_23 rfl hl (by decide) rfl (fun ls hl => ?_)
  refine lv_iload_n hx hb dJ6_bitCount_0f7a4_24 rfl (lv_at hl 0 rfl) ?_
  refine lv_iload_n hx hb dJ6_bitCount_0f7a4_25 rfl (lv_at hl 0 rfl) ?_
  refine lv_iconst (v := 4) hx hb dJ6_bitCount_0f7a4_26 (by decide) ?_
  refine lv_iushr (v := ((bc_2 (bc_1 p1)).toUInt32 >>> ((4 : Int32).toUInt32 &&& Int32.toUInt32 31)).toInt32) hx hb dJ6_bitCount_0f7a4_27 rfl ?_
  refine lv_iadd hx hb dJ6_bitCount_0f7a4_28 ?_
  refine lv_ldcw hx hb hown (hts _ w_ct_J6_267) dJ6_bitCount_0f7a4_29 ?_
  refine lv_iand hx hb dJ6_bitCount_0f7a4_32 ?_
  refine lv_istore_n (lv' := [(0, .int (bc_3 (bc_2 (bc_1 p1))))]) hx hb dJ6_bitCount_0f7a4_33 rfl hl (by decide) rfl (fun ls hl => ?_)
  refine lv_iload_n hx hb dJ6_bitCount_0f7a4_34 rfl (lv_at hl 0 rfl) ?_
  refine lv_iload_n hx hb dJ6_bitCount_0f7a4_35 rfl (lv_at hl 0 rfl) ?_
  refine lv_bipush (v := 8) hx hb dJ6_bitCount_0f7a4_36 (by decide) ?_
  refine lv_iushr (v := ((bc_3 (bc_2 (bc_1 p1))).toUInt32 >>> ((8 : Int32).toUInt32 &&& Int32.toUInt32 31)).toInt32) hx hb dJ6_bitCount_0f7a4_38 rfl ?_
  refine lv_iadd hx hb dJ6_bitCount_0f7a4_39 ?_
  refine lv_istore_n (lv' := [(0, .int (bc_4 (bc_3 (bc_2 (bc_1 p1)))))]) hx hb dJ6_bitCount_0f7a4_40 rfl hl (by decide) rfl (fun ls hl => ?_)
  refine lv_iload_n hx hb dJ6_bitCount_0f7a4_41 rfl (lv_at hl 0 rfl) ?_
  refine lv_iload_n hx hb dJ6_bitCount_0f7a4_42 rfl (lv_at hl 0 rfl) ?_
  refine lv_bipush (v := 16) hx hb dJ6_bitCount_0f7a4_43 (by decide) ?_
  refine lv_iushr (v := ((bc_4 (bc_3 (bc_2 (bc_1 p1)))).toUInt32 >>> ((16 : Int32).toUInt32 &&& Int32.toUInt32 31)).toInt32) hx hb dJ6_bitCount_0f7a4_45 rfl ?_
  refine lv_iadd hx hb dJ6_bitCount_0f7a4_46 ?_
  refine lv_istore_n (lv' := [(0, .int (bc_5 (bc_4 (bc_3 (bc_2 (bc_1 p1))))))]) hx hb dJ6_bitCount_0f7a4_47 rfl hl (by decide) rfl (fun ls hl => ?_)
  refine lv_iload_n hx hb dJ6_bitCount_0f7a4_48 rfl (lv_at hl 0 rfl) ?_
  refine lv_bipush (v := 63) hx hb dJ6_bitCount_0f7a4_49 (by decide) ?_
  refine lv_iand hx hb dJ6_bitCount_0f7a4_51 ?_
  exact k_iret hx hb hr hlocks rfl hw hE rfl dJ6_bitCount_0f7a4_52

abbrev bw_X5_has : List Cond := .code yX5_has cX5_has 2 (some .boolean) :: BIG
abbrev rm_X5_has : Room := { frames := 0, cells := 0, slots := 0, locals := 0 }
noncomputable def sp_X5_has (p1 : Int32) (p2 : Int32) : Int32 := if (p1 >>> (p2 &&& 31)) &&& 1 = 1 then (1) else (0)
set_option maxHeartbeats 1000000 in
set_option maxRecDepth 100000 in
theorem ct_X5_has {l : Launch} {D : va_G} {cI cG cJ cO : ClassId} {K0 : Nat → Nat} {A : Nat → Prop} {L : List (Nat × Nat)} {ad : Nat → Nat → Nat} {ce : Nat → Nat → va_E} (p1 : Int32) (p2 : Int32) (sz : Nat) (hA : ∀ q, sz ≤ q → A q) : Met l yX5_has bw_X5_has rm_X5_has (kP D (ktys cI cG cJ cO) K0 A L ad ce sz [.int p1, .int p2]) (kQi D A (sp_X5_has p1 p2) L ad ce) 0 0 A := by
  refine Met.ofW (cc := cX5_has) (maxL := 2) (ret := (some .boolean)) (by decide) rfl ?_
  intro p e s m args below meth c s₁ B hml hv
  obtain ⟨hav, hsz, hP, hD, hK, hO⟩ := hv
  have hx := B.exec
  have hb := B.bytes
  have hr := B.returns
  have hts : ∀ w ∈ BIG, w.before args s = true := fun w h => atoms_spec (ws := bw_X5_has) B.pre w (List.mem_cons_of_mem _ h)
  have hown : s.vm.findClass RX5 = some m.cls := findClass_of_methodNamed B.named
  have hlocks := B.notSynchronized
  subst hsz
  have hw := wk.start hP hD
  refine k_start (by rfl) hav (Nat.le_of_ble_eq_true rfl) (fun ls hl => ?_)
  have hl : lv_has ls 2 [(0, .int p1), (1, .int p2)] := hl
  have hE : sp_X5_has p1 p2 = sp_X5_has p1 p2 := rfl
  refine lv_iload_n hx hb dX5_has_0 rfl (lv_at hl 0 rfl) ?_
  refine lv_iload_n hx hb dX5_has_1 rfl (lv_at hl 1 rfl) ?_
  refine lv_ishr hx hb dX5_has_2 ?_
  refine lv_iconst (v := 1) hx hb dX5_has_3 (by decide) ?_
  refine lv_iand hx hb dX5_has_4 ?_
  refine lv_iconst (v := 1) hx hb dX5_has_5 (by decide) ?_
  refine lv_icmp_ne (tgt := 13) hx hb dX5_has_6 (by decide) (fun c_1 => ?_) (fun c_1 => ?_)
  · have hE := hE.trans (if_neg c_1)
    refine lv_iconst (v := 0) hx hb dX5_has_13 (by decide) ?_
    exact k_iret hx hb hr hlocks rfl hw hE rfl dX5_has_14
  · have hE := hE.trans (if_pos c_1)
    refine lv_iconst (v := 1) hx hb dX5_has_9 (by decide) ?_
    refine lv_goto (tgt := 14) hx hb dX5_has_10 (by decide) ?_
    exact k_iret hx hb hr hlocks rfl hw hE rfl dX5_has_14

theorem bz_X5_has (p1 : Int32) (p2 : Int32) : sp_X5_has p1 p2 = 0 ∨ sp_X5_has p1 p2 = 1 := by
  unfold sp_X5_has
  repeat' split
  all_goals first | exact Or.inl rfl | exact Or.inr rfl | skip

abbrev bw_X5_isWithin : List Cond := .code yX5_isWithin cX5_isWithin 3 (some .boolean) :: BIG
abbrev rm_X5_isWithin : Room := { frames := 0, cells := 0, slots := 0, locals := 0 }
noncomputable def sp_X5_isWithin (p1 : Int32) (p2 : Int32) (p3 : Int32) : Int32 := if p1 < p2 then (0) else (if p3 < p1 then (0) else (1))
set_option maxHeartbeats 1000000 in
set_option maxRecDepth 100000 in
theorem ct_X5_isWithin {l : Launch} {D : va_G} {cI cG cJ cO : ClassId} {K0 : Nat → Nat} {A : Nat → Prop} {L : List (Nat × Nat)} {ad : Nat → Nat → Nat} {ce : Nat → Nat → va_E} (p1 : Int32) (p2 : Int32) (p3 : Int32) (sz : Nat) (hA : ∀ q, sz ≤ q → A q) : Met l yX5_isWithin bw_X5_isWithin rm_X5_isWithin (kP D (ktys cI cG cJ cO) K0 A L ad ce sz [.int p1, .int p2, .int p3]) (kQi D A (sp_X5_isWithin p1 p2 p3) L ad ce) 0 0 A := by
  refine Met.ofW (cc := cX5_isWithin) (maxL := 3) (ret := (some .boolean)) (by decide) rfl ?_
  intro p e s m args below meth c s₁ B hml hv
  obtain ⟨hav, hsz, hP, hD, hK, hO⟩ := hv
  have hx := B.exec
  have hb := B.bytes
  have hr := B.returns
  have hts : ∀ w ∈ BIG, w.before args s = true := fun w h => atoms_spec (ws := bw_X5_isWithin) B.pre w (List.mem_cons_of_mem _ h)
  have hown : s.vm.findClass RX5 = some m.cls := findClass_of_methodNamed B.named
  have hlocks := B.notSynchronized
  subst hsz
  have hw := wk.start hP hD
  refine k_start (by rfl) hav (Nat.le_of_ble_eq_true rfl) (fun ls hl => ?_)
  have hl : lv_has ls 3 [(0, .int p1), (1, .int p2), (2, .int p3)] := hl
  have hE : sp_X5_isWithin p1 p2 p3 = sp_X5_isWithin p1 p2 p3 := rfl
  refine lv_iload_n hx hb dX5_isWithin_0 rfl (lv_at hl 0 rfl) ?_
  refine lv_iload_n hx hb dX5_isWithin_1 rfl (lv_at hl 1 rfl) ?_
  refine lv_icmp_lt (tgt := 14) hx hb dX5_isWithin_2 (by decide) (fun c_1 => ?_) (fun c_1 => ?_)
  · have hE := hE.trans (if_pos c_1)
    refine lv_iconst (v := 0) hx hb dX5_isWithin_14 (by decide) ?_
    exact k_iret hx hb hr hlocks rfl hw hE rfl dX5_isWithin_15
  · have hE := hE.trans (if_neg c_1)
    refine lv_iload_n hx hb dX5_isWithin_5 rfl (lv_at hl 0 rfl) ?_
    refine lv_iload_n hx hb dX5_isWithin_6 rfl (lv_at hl 2 rfl) ?_
    refine lv_icmp_gt (tgt := 14) hx hb dX5_isWithin_7 (by decide) (fun c_2 => ?_) (fun c_2 => ?_)
    · have hE := hE.trans (if_pos c_2)
      refine lv_iconst (v := 0) hx hb dX5_isWithin_14 (by decide) ?_
      exact k_iret hx hb hr hlocks rfl hw hE rfl dX5_isWithin_15
    · have hE := hE.trans (if_neg c_2)
      refine lv_iconst (v := 1) hx hb dX5_isWithin_10 (by decide) ?_
      refine lv_goto (tgt := 15) hx hb dX5_isWithin_11 (by decide) ?_
      exact k_iret hx hb hr hlocks rfl hw hE rfl dX5_isWithin_15

theorem bz_X5_isWithin (p1 : Int32) (p2 : Int32) (p3 : Int32) : sp_X5_isWithin p1 p2 p3 = 0 ∨ sp_X5_isWithin p1 p2 p3 = 1 := by
  unfold sp_X5_isWithin
  repeat' split
  all_goals first | exact Or.inl rfl | exact Or.inr rfl | exact bz_X5_has _ _ | skip

abbrev bw_X5_isOfKind : List Cond := .code yX5_isOfKind cX5_isOfKind 2 (some .boolean) :: BIG
abbrev rm_X5_isOfKind : Room := { frames := 1, cells := 0, slots := 0, locals := 22 }
noncomputable def sp_X5_isOfKind (p1 : Int32) (p2 : Int32) : Int32 := if p1 = 0 then (sp_X5_isWithin p2 0 255) else (if p1 = 1 then (if sp_X5_isWithin p2 0 3 = 0 then (0) else (1)) else (1))
set_option maxHeartbeats 1000000 in
set_option maxRecDepth 100000 in
theorem ct_X5_isOfKind {l : Launch} {D : va_G} {cI cG cJ cO : ClassId} {K0 : Nat → Nat} {A : Nat → Prop} {L : List (Nat × Nat)} {ad : Nat → Nat → Nat} {ce : Nat → Nat → va_E} (p1 : Int32) (p2 : Int32) (sz : Nat) (hA : ∀ q, sz ≤ q → A q) : Met l yX5_isOfKind bw_X5_isOfKind rm_X5_isOfKind (kP D (ktys cI cG cJ cO) K0 A L ad ce sz [.int p1, .int p2]) (kQi D A (sp_X5_isOfKind p1 p2) L ad ce) 0 0 A := by
  refine Met.ofW (cc := cX5_isOfKind) (maxL := 2) (ret := (some .boolean)) (by decide) rfl ?_
  intro p e s m args below meth c s₁ B hml hv
  obtain ⟨hav, hsz, hP, hD, hK, hO⟩ := hv
  have hx := B.exec
  have hb := B.bytes
  have hr := B.returns
  have hts : ∀ w ∈ BIG, w.before args s = true := fun w h => atoms_spec (ws := bw_X5_isOfKind) B.pre w (List.mem_cons_of_mem _ h)
  have hown : s.vm.findClass RX5 = some m.cls := findClass_of_methodNamed B.named
  have hlocks := B.notSynchronized
  subst hsz
  have hw := wk.start hP hD
  refine k_start (by rfl) hav (Nat.le_of_ble_eq_true rfl) (fun ls hl => ?_)
  have hl : lv_has ls 2 [(0, .int p1), (1, .int p2)] := hl
  have hE : sp_X5_isOfKind p1 p2 = sp_X5_isOfKind p1 p2 := rfl
  refine lv_iload_n hx hb dX5_isOfKind_0 rfl (lv_at hl 0 rfl) ?_
  refine lv_if_ne (tgt := 13) hx hb dX5_isOfKind_1 (by decide) (fun c_1 => ?_) (fun c_1 => ?_)
  · have hE := hE.trans (if_neg c_1)
    refine lv_iload_n hx hb dX5_isOfKind_13 rfl (lv_at hl 0 rfl) ?_
    refine lv_iconst (v := 1) hx hb dX5_isOfKind_14 (by decide) ?_
    refine lv_icmp_ne (tgt := 27) hx hb dX5_isOfKind_15 (by decide) (fun c_2 => ?_) (fun c_2 => ?_)
    · have hE := hE.trans (if_neg c_2)
      refine lv_iconst (v := 1) hx hb dX5_isOfKind_27 (by decide) ?_
      refine lv_goto (tgt := 32) hx hb dX5_isOfKind_28 (by decide) ?_
      exact k_iret hx hb hr hlocks rfl hw hE rfl dX5_isOfKind_32
    · have hE := hE.trans (if_pos c_2)
      refine lv_iload_n hx hb dX5_isOfKind_18 rfl (lv_at hl 1 rfl) ?_
      refine lv_iconst (v := 0) hx hb dX5_isOfKind_19 (by decide) ?_
      refine lv_iconst (v := 3) hx hb dX5_isOfKind_20 (by decide) ?_
      refine k_ci0 hw (k_rS (As := [.int p2, .int 0, .int 3]) (rest := []) ⟨hx, hb, hml, hown, hts⟩ hK hO hw (ct_X5_isWithin p2 0 3 _ (wk.hA hw hA)) (va_cwS 3 hts (gB_S w_ml_X5_46 w_st_X5_isWithin w_in_X5 w_co_X5_isWithin) rfl rfl rfl (by decide +kernel) ⟨by decide, by decide⟩) rfl hl.1 rfl (Nat.le_of_ble_eq_true rfl) dX5_isOfKind_21 ⟨Nat.le_of_ble_eq_true rfl, Nat.le_of_ble_eq_true rfl⟩) (fun H locs hw => ?_)
      refine lv_if_eq (tgt := 31) hx hb dX5_isOfKind_24 (by decide) (fun c_3 => ?_) (fun c_3 => ?_)
      · have hE := hE.trans (if_pos c_3)
        refine lv_iconst (v := 0) hx hb dX5_isOfKind_31 (by decide) ?_
        exact k_iret hx hb hr hlocks rfl hw hE rfl dX5_isOfKind_32
      · have hE := hE.trans (if_neg c_3)
        refine lv_iconst (v := 1) hx hb dX5_isOfKind_27 (by decide) ?_
        refine lv_goto (tgt := 32) hx hb dX5_isOfKind_28 (by decide) ?_
        exact k_iret hx hb hr hlocks rfl hw hE rfl dX5_isOfKind_32
  · have hE := hE.trans (if_pos c_1)
    refine lv_iload_n hx hb dX5_isOfKind_4 rfl (lv_at hl 1 rfl) ?_
    refine lv_iconst (v := 0) hx hb dX5_isOfKind_5 (by decide) ?_
    refine lv_sipush (v := 255) hx hb dX5_isOfKind_6 (by decide) ?_
    refine k_ci0 hw (k_rS (As := [.int p2, .int 0, .int 255]) (rest := []) ⟨hx, hb, hml, hown, hts⟩ hK hO hw (ct_X5_isWithin p2 0 255 _ (wk.hA hw hA)) (va_cwS 3 hts (gB_S w_ml_X5_46 w_st_X5_isWithin w_in_X5 w_co_X5_isWithin) rfl rfl rfl (by decide +kernel) ⟨by decide, by decide⟩) rfl hl.1 rfl (Nat.le_of_ble_eq_true rfl) dX5_isOfKind_9 ⟨Nat.le_of_ble_eq_true rfl, Nat.le_of_ble_eq_true rfl⟩) (fun H locs hw => ?_)
    exact k_iret hx hb hr hlocks (k_nz (bz_X5_isWithin _ _ _)) hw hE rfl dX5_isOfKind_12

theorem bz_X5_isOfKind (p1 : Int32) (p2 : Int32) : sp_X5_isOfKind p1 p2 = 0 ∨ sp_X5_isOfKind p1 p2 = 1 := by
  unfold sp_X5_isOfKind
  repeat' split
  all_goals first | exact Or.inl rfl | exact Or.inr rfl | exact bz_X5_isWithin _ _ _
