abbrev bw_X2_init : List Cond := .code yX2_init cX2_init 1 none :: BIG
abbrev rm_X2_init : Room := { frames := 1, cells := 6, slots := 58, locals := 12 }
set_option maxHeartbeats 1000000 in
set_option maxRecDepth 100000 in
theorem ct_X2_init {l : Launch} {D : va_G} {cI cG cJ cO : ClassId} {K0 : Nat → Nat} {A : Nat → Prop} {L : List (Nat × Nat)} {ad : Nat → Nat → Nat} {ce : Nat → Nat → va_E} {a0 : Nat} (ma0 : (1, 0) ∈ L) (ha0 : ad 1 0 = a0) (hc : ce 1 0 = .inr (2, [.null, .null, .null, .null, .null, .null, .int 0, .int 0])) (n7 : (7, 0) ∉ L) (n8 : (8, 0) ∉ L) (n9 : (9, 0) ∉ L) (n10 : (10, 0) ∉ L) (n11 : (11, 0) ∉ L) (n12 : (12, 0) ∉ L) (sz : Nat) (hA : ∀ q, sz ≤ q → A q) : Met l yX2_init bw_X2_init rm_X2_init (kP D (ktys cI cG cJ cO) K0 A L ad ce sz [.ref a0]) (kQx D A L ad (L ++ [(7, 0)] ++ [(8, 0)] ++ [(9, 0)] ++ [(10, 0)] ++ [(11, 0)] ++ [(12, 0)]) (fun u => cX cI cJ u ce [(1, 0), (7, 0), (8, 0), (9, 0), (10, 0), (11, 0), (12, 0)])) 6 58 A := by
  refine Met.ofW (cc := cX2_init) (maxL := 1) (ret := none) (by decide) rfl ?_
  intro p e s m args below meth c s₁ B hml hv
  obtain ⟨hav, hsz, hP, hD, hK, hO⟩ := hv
  have hx := B.exec
  have hb := B.bytes
  have hr := B.returns
  have hts : ∀ w ∈ BIG, w.before args s = true := fun w h => atoms_spec (ws := bw_X2_init) B.pre w (List.mem_cons_of_mem _ h)
  have hown : s.vm.findClass RX2 = some m.cls := findClass_of_methodNamed B.named
  have hlocks := B.notSynchronized
  have hin : meth.name = "<init>" := (name_of_methodNamed B.named B.method).1
  subst hsz
  have hw := wk.start hP hD
  refine k_start (by rfl) hav (Nat.le_of_ble_eq_true rfl) (fun ls hl => ?_)
  have hl : lv_has ls 1 [(0, .ref a0)] := hl
  have hX : Ex L ad ad := fun _ _ _ => rfl
  have hs : ∀ i, i ∈ L → i ∈ L := fun _ h => h
  refine lv_aload_n hx hb dX2_init_0 rfl (lv_at hl 0 rfl) ?_
  refine W.objInit hx hb hown (hts _ w_oi_X2) (hts _ w_oi_im) (hts _ w_oi_co) rfl (by rw [hml]; exact hl.1) rfl dX2_init_1 (Nat.le_of_ble_eq_true rfl) (Nat.le_of_ble_eq_true rfl) ?_
  refine W.eq (g2 := F0 m 4 ls []) rfl ?_
  refine lv_aload_n hx hb dX2_init_4 rfl (lv_at hl 0 rfl) ?_
  refine lv_bipush (v := 12) hx hb dX2_init_5 (by decide) ?_
  refine k_newi2 hx hb (hts _ w_ac_int) hK hw hA (n := 12) (N' := 12) (by decide) (by decide) (Nat.le_of_ble_eq_true rfl) (Nat.le_of_ble_eq_true rfl) (Nat.le_of_ble_eq_true rfl) 7 0 n7 dX2_init_7 (fun u1 a7_1 H hE1 ha7_1 hw => ?_)
  have ha0 := (hE1 _ _ ma0).trans ha0
  have ma0 := List.mem_append_left [(7, 0)] ma0
  have hX := Ex.tr hX hE1 hs
  have hs := fun i h => List.mem_append_left [(7, 0)] (hs i h)
  have ma7_1 := List.mem_append_right L (List.mem_singleton_self (7, 0))
  have n8 := nmemf (g := 7) (p := 0) n8 (by decide)
  have n9 := nmemf (g := 7) (p := 0) n9 (by decide)
  have n10 := nmemf (g := 7) (p := 0) n10 (by decide)
  have n11 := nmemf (g := 7) (p := 0) n11 (by decide)
  have n12 := nmemf (g := 7) (p := 0) n12 (by decide)
  refine k_putF2 (C := RX2) (T := TX2) (N := 8) (v := .ref a7_1) (ty := (.array .int)) hx hb hts inB_X2 tyX2 tyX2_ok nmX2 hown hK hw ma0 ha0 ((up2_n (by decide)).trans hc) rfl 0 (by decide) (hts _ w_f_X2_9) (fun _ h9 => h9) hin rfl rfl (by decide +kernel) rfl rfl (Nat.le_of_ble_eq_true rfl) dX2_init_9 (fun H locs hw => ?_)
  refine lv_aload_n hx hb dX2_init_12 rfl (lv_at hl 0 rfl) ?_
  refine lv_bipush (v := 12) hx hb dX2_init_13 (by decide) ?_
  refine k_newi2 hx hb (hts _ w_ac_int) hK hw hA (n := 12) (N' := 12) (by decide) (by decide) (Nat.le_of_ble_eq_true rfl) (Nat.le_of_ble_eq_true rfl) (Nat.le_of_ble_eq_true rfl) 8 0 n8 dX2_init_15 (fun u2 a8_2 H hE2 ha8_2 hw => ?_)
  have ha0 := (hE2 _ _ ma0).trans ha0
  have ha7_1 := (hE2 _ _ ma7_1).trans ha7_1
  have ma0 := List.mem_append_left [(8, 0)] ma0
  have ma7_1 := List.mem_append_left [(8, 0)] ma7_1
  have hX := Ex.tr hX hE2 hs
  have hs := fun i h => List.mem_append_left [(8, 0)] (hs i h)
  have ma8_2 := List.mem_append_right (L ++ [(7, 0)]) (List.mem_singleton_self (8, 0))
  have n9 := nmemf (g := 8) (p := 0) n9 (by decide)
  have n10 := nmemf (g := 8) (p := 0) n10 (by decide)
  have n11 := nmemf (g := 8) (p := 0) n11 (by decide)
  have n12 := nmemf (g := 8) (p := 0) n12 (by decide)
  refine k_putF2 (C := RX2) (T := TX2) (N := 8) (v := .ref a8_2) (ty := (.array .int)) hx hb hts inB_X2 tyX2 tyX2_ok nmX2 hown hK hw ma0 ha0 ((up2_n (by decide)).trans up2_eq) rfl 1 (by decide) (hts _ w_f_X2_15) (fun _ h9 => h9) hin rfl rfl (by decide +kernel) rfl rfl (Nat.le_of_ble_eq_true rfl) dX2_init_17 (fun H locs hw => ?_)
  refine lv_aload_n hx hb dX2_init_20 rfl (lv_at hl 0 rfl) ?_
  refine lv_bipush (v := 12) hx hb dX2_init_21 (by decide) ?_
  refine k_newi2 hx hb (hts _ w_ac_int) hK hw hA (n := 12) (N' := 12) (by decide) (by decide) (Nat.le_of_ble_eq_true rfl) (Nat.le_of_ble_eq_true rfl) (Nat.le_of_ble_eq_true rfl) 9 0 n9 dX2_init_23 (fun u3 a9_3 H hE3 ha9_3 hw => ?_)
  have ha0 := (hE3 _ _ ma0).trans ha0
  have ha7_1 := (hE3 _ _ ma7_1).trans ha7_1
  have ha8_2 := (hE3 _ _ ma8_2).trans ha8_2
  have ma0 := List.mem_append_left [(9, 0)] ma0
  have ma7_1 := List.mem_append_left [(9, 0)] ma7_1
  have ma8_2 := List.mem_append_left [(9, 0)] ma8_2
  have hX := Ex.tr hX hE3 hs
  have hs := fun i h => List.mem_append_left [(9, 0)] (hs i h)
  have ma9_3 := List.mem_append_right (L ++ [(7, 0)] ++ [(8, 0)]) (List.mem_singleton_self (9, 0))
  have n10 := nmemf (g := 9) (p := 0) n10 (by decide)
  have n11 := nmemf (g := 9) (p := 0) n11 (by decide)
  have n12 := nmemf (g := 9) (p := 0) n12 (by decide)
  refine k_putF2 (C := RX2) (T := TX2) (N := 8) (v := .ref a9_3) (ty := (.array .int)) hx hb hts inB_X2 tyX2 tyX2_ok nmX2 hown hK hw ma0 ha0 ((up2_n (by decide)).trans up2_eq) rfl 2 (by decide) (hts _ w_f_X2_18) (fun _ h9 => h9) hin rfl rfl (by decide +kernel) rfl rfl (Nat.le_of_ble_eq_true rfl) dX2_init_25 (fun H locs hw => ?_)
  refine lv_aload_n hx hb dX2_init_28 rfl (lv_at hl 0 rfl) ?_
  refine lv_bipush (v := 12) hx hb dX2_init_29 (by decide) ?_
  refine k_newi2 hx hb (hts _ w_ac_int) hK hw hA (n := 12) (N' := 12) (by decide) (by decide) (Nat.le_of_ble_eq_true rfl) (Nat.le_of_ble_eq_true rfl) (Nat.le_of_ble_eq_true rfl) 10 0 n10 dX2_init_31 (fun u4 a10_4 H hE4 ha10_4 hw => ?_)
  have ha0 := (hE4 _ _ ma0).trans ha0
  have ha7_1 := (hE4 _ _ ma7_1).trans ha7_1
  have ha8_2 := (hE4 _ _ ma8_2).trans ha8_2
  have ha9_3 := (hE4 _ _ ma9_3).trans ha9_3
  have ma0 := List.mem_append_left [(10, 0)] ma0
  have ma7_1 := List.mem_append_left [(10, 0)] ma7_1
  have ma8_2 := List.mem_append_left [(10, 0)] ma8_2
  have ma9_3 := List.mem_append_left [(10, 0)] ma9_3
  have hX := Ex.tr hX hE4 hs
  have hs := fun i h => List.mem_append_left [(10, 0)] (hs i h)
  have ma10_4 := List.mem_append_right (L ++ [(7, 0)] ++ [(8, 0)] ++ [(9, 0)]) (List.mem_singleton_self (10, 0))
  have n11 := nmemf (g := 10) (p := 0) n11 (by decide)
  have n12 := nmemf (g := 10) (p := 0) n12 (by decide)
  refine k_putF2 (C := RX2) (T := TX2) (N := 8) (v := .ref a10_4) (ty := (.array .int)) hx hb hts inB_X2 tyX2 tyX2_ok nmX2 hown hK hw ma0 ha0 ((up2_n (by decide)).trans up2_eq) rfl 3 (by decide) (hts _ w_f_X2_21) (fun _ h9 => h9) hin rfl rfl (by decide +kernel) rfl rfl (Nat.le_of_ble_eq_true rfl) dX2_init_33 (fun H locs hw => ?_)
  refine lv_aload_n hx hb dX2_init_36 rfl (lv_at hl 0 rfl) ?_
  refine lv_iconst (v := 4) hx hb dX2_init_37 (by decide) ?_
  refine k_newi2 hx hb (hts _ w_ac_int) hK hw hA (n := 4) (N' := 4) (by decide) (by decide) (Nat.le_of_ble_eq_true rfl) (Nat.le_of_ble_eq_true rfl) (Nat.le_of_ble_eq_true rfl) 11 0 n11 dX2_init_38 (fun u5 a11_5 H hE5 ha11_5 hw => ?_)
  have ha0 := (hE5 _ _ ma0).trans ha0
  have ha7_1 := (hE5 _ _ ma7_1).trans ha7_1
  have ha8_2 := (hE5 _ _ ma8_2).trans ha8_2
  have ha9_3 := (hE5 _ _ ma9_3).trans ha9_3
  have ha10_4 := (hE5 _ _ ma10_4).trans ha10_4
  have ma0 := List.mem_append_left [(11, 0)] ma0
  have ma7_1 := List.mem_append_left [(11, 0)] ma7_1
  have ma8_2 := List.mem_append_left [(11, 0)] ma8_2
  have ma9_3 := List.mem_append_left [(11, 0)] ma9_3
  have ma10_4 := List.mem_append_left [(11, 0)] ma10_4
  have hX := Ex.tr hX hE5 hs
  have hs := fun i h => List.mem_append_left [(11, 0)] (hs i h)
  have ma11_5 := List.mem_append_right (L ++ [(7, 0)] ++ [(8, 0)] ++ [(9, 0)] ++ [(10, 0)]) (List.mem_singleton_self (11, 0))
  have n12 := nmemf (g := 11) (p := 0) n12 (by decide)
  refine k_putF2 (C := RX2) (T := TX2) (N := 8) (v := .ref a11_5) (ty := (.array .int)) hx hb hts inB_X2 tyX2 tyX2_ok nmX2 hown hK hw ma0 ha0 ((up2_n (by decide)).trans up2_eq) rfl 4 (by decide) (hts _ w_f_X2_24) (fun _ h9 => h9) hin rfl rfl (by decide +kernel) rfl rfl (Nat.le_of_ble_eq_true rfl) dX2_init_40 (fun H locs hw => ?_)
  refine lv_aload_n hx hb dX2_init_43 rfl (lv_at hl 0 rfl) ?_
  refine lv_bipush (v := 6) hx hb dX2_init_44 (by decide) ?_
  refine k_newi2 hx hb (hts _ w_ac_int) hK hw hA (n := 6) (N' := 6) (by decide) (by decide) (Nat.le_of_ble_eq_true rfl) (Nat.le_of_ble_eq_true rfl) (Nat.le_of_ble_eq_true rfl) 12 0 n12 dX2_init_46 (fun u6 a12_6 H hE6 ha12_6 hw => ?_)
  have ha0 := (hE6 _ _ ma0).trans ha0
  have ha7_1 := (hE6 _ _ ma7_1).trans ha7_1
  have ha8_2 := (hE6 _ _ ma8_2).trans ha8_2
  have ha9_3 := (hE6 _ _ ma9_3).trans ha9_3
  have ha10_4 := (hE6 _ _ ma10_4).trans ha10_4
  have ha11_5 := (hE6 _ _ ma11_5).trans ha11_5
  have ma0 := List.mem_append_left [(12, 0)] ma0
  have ma7_1 := List.mem_append_left [(12, 0)] ma7_1
  have ma8_2 := List.mem_append_left [(12, 0)] ma8_2
  have ma9_3 := List.mem_append_left [(12, 0)] ma9_3
  have ma10_4 := List.mem_append_left [(12, 0)] ma10_4
  have ma11_5 := List.mem_append_left [(12, 0)] ma11_5
  have hX := Ex.tr hX hE6 hs
  have hs := fun i h => List.mem_append_left [(12, 0)] (hs i h)
  have ma12_6 := List.mem_append_right (L ++ [(7, 0)] ++ [(8, 0)] ++ [(9, 0)] ++ [(10, 0)] ++ [(11, 0)]) (List.mem_singleton_self (12, 0))
  refine k_putF2 (C := RX2) (T := TX2) (N := 8) (v := .ref a12_6) (ty := (.array .int)) hx hb hts inB_X2 tyX2 tyX2_ok nmX2 hown hK hw ma0 ha0 ((up2_n (by decide)).trans up2_eq) rfl 5 (by decide) (hts _ w_f_X2_27) (fun _ h9 => h9) hin rfl rfl (by decide +kernel) rfl rfl (Nat.le_of_ble_eq_true rfl) dX2_init_48 (fun H locs hw => ?_)
  refine k_vretx hx hb hr hlocks hw hX ?_ (Nat.le_of_ble_eq_true rfl) (Nat.le_of_ble_eq_true rfl) dX2_init_51
  show cX cI cJ u6 ce [(1, 0), (7, 0), (8, 0), (9, 0), (10, 0), (11, 0), (12, 0)] = _
  funext f o
  unfold cX
  by_cases h : (f, o) ∈ ([(1, 0), (7, 0), (8, 0), (9, 0), (10, 0), (11, 0), (12, 0)] : List (Nat × Nat))
  · rw [if_pos h]
    simp only [List.mem_cons, List.not_mem_nil, or_false, Prod.mk.injEq] at h
    rcases h with ⟨rfl, rfl⟩ | ⟨rfl, rfl⟩ | ⟨rfl, rfl⟩ | ⟨rfl, rfl⟩ | ⟨rfl, rfl⟩ | ⟨rfl, rfl⟩ | ⟨rfl, rfl⟩
    · refine Eq.trans ?_ (up2_eq).symm
      rw [cc_1, ha7_1, ha8_2, ha9_3, ha10_4, ha11_5, ha12_6]
      all_goals rfl
    · refine Eq.trans ?_ (((up2_n (by decide)).trans ((up2_n (by decide)).trans ((up2_n (by decide)).trans ((up2_n (by decide)).trans ((up2_n (by decide)).trans ((up2_n (by decide)).trans ((up2_n (by decide)).trans ((up2_n (by decide)).trans ((up2_n (by decide)).trans ((up2_n (by decide)).trans ((up2_n (by decide)).trans up2_eq)))))))))))).symm
      rfl
    · refine Eq.trans ?_ (((up2_n (by decide)).trans ((up2_n (by decide)).trans ((up2_n (by decide)).trans ((up2_n (by decide)).trans ((up2_n (by decide)).trans ((up2_n (by decide)).trans ((up2_n (by decide)).trans ((up2_n (by decide)).trans ((up2_n (by decide)).trans up2_eq)))))))))).symm
      rfl
    · refine Eq.trans ?_ (((up2_n (by decide)).trans ((up2_n (by decide)).trans ((up2_n (by decide)).trans ((up2_n (by decide)).trans ((up2_n (by decide)).trans ((up2_n (by decide)).trans ((up2_n (by decide)).trans up2_eq)))))))).symm
      rfl
    · refine Eq.trans ?_ (((up2_n (by decide)).trans ((up2_n (by decide)).trans ((up2_n (by decide)).trans ((up2_n (by decide)).trans ((up2_n (by decide)).trans up2_eq)))))).symm
      rfl
    · refine Eq.trans ?_ (((up2_n (by decide)).trans ((up2_n (by decide)).trans ((up2_n (by decide)).trans up2_eq)))).symm
      rfl
    · refine Eq.trans ?_ (((up2_n (by decide)).trans up2_eq)).symm
      rfl
  · rw [if_neg h]
    have z7 : ¬ (f = 7 ∧ o = 0) := fun z => h (by rw [z.1, z.2]; simp)
    have z1 : ¬ (f = 1 ∧ o = 0) := fun z => h (by rw [z.1, z.2]; simp)
    have z8 : ¬ (f = 8 ∧ o = 0) := fun z => h (by rw [z.1, z.2]; simp)
    have z9 : ¬ (f = 9 ∧ o = 0) := fun z => h (by rw [z.1, z.2]; simp)
    have z10 : ¬ (f = 10 ∧ o = 0) := fun z => h (by rw [z.1, z.2]; simp)
    have z11 : ¬ (f = 11 ∧ o = 0) := fun z => h (by rw [z.1, z.2]; simp)
    have z12 : ¬ (f = 12 ∧ o = 0) := fun z => h (by rw [z.1, z.2]; simp)
    exact ((up2_o z1).trans ((up2_o z12).trans ((up2_o z1).trans ((up2_o z11).trans ((up2_o z1).trans ((up2_o z10).trans ((up2_o z1).trans ((up2_o z9).trans ((up2_o z1).trans ((up2_o z8).trans ((up2_o z1).trans ((up2_o z7).trans rfl)))))))))))).symm

abbrev bw_X3_init : List Cond := .code yX3_init cX3_init 1 none :: BIG
abbrev rm_X3_init : Room := { frames := 1, cells := 4, slots := 64, locals := 12 }
set_option maxHeartbeats 1000000 in
set_option maxRecDepth 100000 in
theorem ct_X3_init {l : Launch} {D : va_G} {cI cG cJ cO : ClassId} {K0 : Nat → Nat} {A : Nat → Prop} {L : List (Nat × Nat)} {ad : Nat → Nat → Nat} {ce : Nat → Nat → va_E} {a0 : Nat} (ma0 : (2, 0) ∈ L) (ha0 : ad 2 0 = a0) (hc : ce 2 0 = .inr (3, [.null, .null, .null, .null, .int 0])) (n13 : (13, 0) ∉ L) (n14 : (14, 0) ∉ L) (n15 : (15, 0) ∉ L) (n16 : (16, 0) ∉ L) (sz : Nat) (hA : ∀ q, sz ≤ q → A q) : Met l yX3_init bw_X3_init rm_X3_init (kP D (ktys cI cG cJ cO) K0 A L ad ce sz [.ref a0]) (kQx D A L ad (L ++ [(13, 0)] ++ [(14, 0)] ++ [(15, 0)] ++ [(16, 0)]) (fun u => cX cI cJ u ce [(2, 0), (13, 0), (14, 0), (15, 0), (16, 0)])) 4 64 A := by
  refine Met.ofW (cc := cX3_init) (maxL := 1) (ret := none) (by decide) rfl ?_
  intro p e s m args below meth c s₁ B hml hv
  obtain ⟨hav, hsz, hP, hD, hK, hO⟩ := hv
  have hx := B.exec
  have hb := B.bytes
  have hr := B.returns
  have hts : ∀ w ∈ BIG, w.before args s = true := fun w h => atoms_spec (ws := bw_X3_init) B.pre w (List.mem_cons_of_mem _ h)
  have hown : s.vm.findClass RX3 = some m.cls := findClass_of_methodNamed B.named
  have hlocks := B.notSynchronized
  have hin : meth.name = "<init>" := (name_of_methodNamed B.named B.method).1
  subst hsz
  have hw := wk.start hP hD
  refine k_start (by rfl) hav (Nat.le_of_ble_eq_true rfl) (fun ls hl => ?_)
  have hl : lv_has ls 1 [(0, .ref a0)] := hl
  have hX : Ex L ad ad := fun _ _ _ => rfl
  have hs : ∀ i, i ∈ L → i ∈ L := fun _ h => h
  refine lv_aload_n hx hb dX3_init_0 rfl (lv_at hl 0 rfl) ?_
  refine W.objInit hx hb hown (hts _ w_oi_X3) (hts _ w_oi_im) (hts _ w_oi_co) rfl (by rw [hml]; exact hl.1) rfl dX3_init_1 (Nat.le_of_ble_eq_true rfl) (Nat.le_of_ble_eq_true rfl) ?_
  refine W.eq (g2 := F0 m 4 ls []) rfl ?_
  refine lv_aload_n hx hb dX3_init_4 rfl (lv_at hl 0 rfl) ?_
  refine lv_iconst (v := 4) hx hb dX3_init_5 (by decide) ?_
  refine k_newi2 hx hb (hts _ w_ac_int) hK hw hA (n := 4) (N' := 4) (by decide) (by decide) (Nat.le_of_ble_eq_true rfl) (Nat.le_of_ble_eq_true rfl) (Nat.le_of_ble_eq_true rfl) 13 0 n13 dX3_init_6 (fun u1 a13_1 H hE1 ha13_1 hw => ?_)
  have ha0 := (hE1 _ _ ma0).trans ha0
  have ma0 := List.mem_append_left [(13, 0)] ma0
  have hX := Ex.tr hX hE1 hs
  have hs := fun i h => List.mem_append_left [(13, 0)] (hs i h)
  have ma13_1 := List.mem_append_right L (List.mem_singleton_self (13, 0))
  have n14 := nmemf (g := 13) (p := 0) n14 (by decide)
  have n15 := nmemf (g := 13) (p := 0) n15 (by decide)
  have n16 := nmemf (g := 13) (p := 0) n16 (by decide)
  refine k_putF2 (C := RX3) (T := TX3) (N := 5) (v := .ref a13_1) (ty := (.array .int)) hx hb hts inB_X3 tyX3 tyX3_ok nmX3 hown hK hw ma0 ha0 ((up2_n (by decide)).trans hc) rfl 0 (by decide) (hts _ w_f_X3_9) (fun _ h9 => h9) hin rfl rfl (by decide +kernel) rfl rfl (Nat.le_of_ble_eq_true rfl) dX3_init_8 (fun H locs hw => ?_)
  refine lv_aload_n hx hb dX3_init_11 rfl (lv_at hl 0 rfl) ?_
  refine lv_bipush (v := 20) hx hb dX3_init_12 (by decide) ?_
  refine k_newi2 hx hb (hts _ w_ac_int) hK hw hA (n := 20) (N' := 20) (by decide) (by decide) (Nat.le_of_ble_eq_true rfl) (Nat.le_of_ble_eq_true rfl) (Nat.le_of_ble_eq_true rfl) 14 0 n14 dX3_init_14 (fun u2 a14_2 H hE2 ha14_2 hw => ?_)
  have ha0 := (hE2 _ _ ma0).trans ha0
  have ha13_1 := (hE2 _ _ ma13_1).trans ha13_1
  have ma0 := List.mem_append_left [(14, 0)] ma0
  have ma13_1 := List.mem_append_left [(14, 0)] ma13_1
  have hX := Ex.tr hX hE2 hs
  have hs := fun i h => List.mem_append_left [(14, 0)] (hs i h)
  have ma14_2 := List.mem_append_right (L ++ [(13, 0)]) (List.mem_singleton_self (14, 0))
  have n15 := nmemf (g := 14) (p := 0) n15 (by decide)
  have n16 := nmemf (g := 14) (p := 0) n16 (by decide)
  refine k_putF2 (C := RX3) (T := TX3) (N := 5) (v := .ref a14_2) (ty := (.array .int)) hx hb hts inB_X3 tyX3 tyX3_ok nmX3 hown hK hw ma0 ha0 ((up2_n (by decide)).trans up2_eq) rfl 1 (by decide) (hts _ w_f_X3_15) (fun _ h9 => h9) hin rfl rfl (by decide +kernel) rfl rfl (Nat.le_of_ble_eq_true rfl) dX3_init_16 (fun H locs hw => ?_)
  refine lv_aload_n hx hb dX3_init_19 rfl (lv_at hl 0 rfl) ?_
  refine lv_bipush (v := 20) hx hb dX3_init_20 (by decide) ?_
  refine k_newi2 hx hb (hts _ w_ac_int) hK hw hA (n := 20) (N' := 20) (by decide) (by decide) (Nat.le_of_ble_eq_true rfl) (Nat.le_of_ble_eq_true rfl) (Nat.le_of_ble_eq_true rfl) 15 0 n15 dX3_init_22 (fun u3 a15_3 H hE3 ha15_3 hw => ?_)
  have ha0 := (hE3 _ _ ma0).trans ha0
  have ha13_1 := (hE3 _ _ ma13_1).trans ha13_1
  have ha14_2 := (hE3 _ _ ma14_2).trans ha14_2
  have ma0 := List.mem_append_left [(15, 0)] ma0
  have ma13_1 := List.mem_append_left [(15, 0)] ma13_1
  have ma14_2 := List.mem_append_left [(15, 0)] ma14_2
  have hX := Ex.tr hX hE3 hs
  have hs := fun i h => List.mem_append_left [(15, 0)] (hs i h)
  have ma15_3 := List.mem_append_right (L ++ [(13, 0)] ++ [(14, 0)]) (List.mem_singleton_self (15, 0))
  have n16 := nmemf (g := 15) (p := 0) n16 (by decide)
  refine k_putF2 (C := RX3) (T := TX3) (N := 5) (v := .ref a15_3) (ty := (.array .int)) hx hb hts inB_X3 tyX3 tyX3_ok nmX3 hown hK hw ma0 ha0 ((up2_n (by decide)).trans up2_eq) rfl 2 (by decide) (hts _ w_f_X3_18) (fun _ h9 => h9) hin rfl rfl (by decide +kernel) rfl rfl (Nat.le_of_ble_eq_true rfl) dX3_init_24 (fun H locs hw => ?_)
  refine lv_aload_n hx hb dX3_init_27 rfl (lv_at hl 0 rfl) ?_
  refine lv_bipush (v := 20) hx hb dX3_init_28 (by decide) ?_
  refine k_newi2 hx hb (hts _ w_ac_int) hK hw hA (n := 20) (N' := 20) (by decide) (by decide) (Nat.le_of_ble_eq_true rfl) (Nat.le_of_ble_eq_true rfl) (Nat.le_of_ble_eq_true rfl) 16 0 n16 dX3_init_30 (fun u4 a16_4 H hE4 ha16_4 hw => ?_)
  have ha0 := (hE4 _ _ ma0).trans ha0
  have ha13_1 := (hE4 _ _ ma13_1).trans ha13_1
  have ha14_2 := (hE4 _ _ ma14_2).trans ha14_2
  have ha15_3 := (hE4 _ _ ma15_3).trans ha15_3
  have ma0 := List.mem_append_left [(16, 0)] ma0
  have ma13_1 := List.mem_append_left [(16, 0)] ma13_1
  have ma14_2 := List.mem_append_left [(16, 0)] ma14_2
  have ma15_3 := List.mem_append_left [(16, 0)] ma15_3
  have hX := Ex.tr hX hE4 hs
  have hs := fun i h => List.mem_append_left [(16, 0)] (hs i h)
  have ma16_4 := List.mem_append_right (L ++ [(13, 0)] ++ [(14, 0)] ++ [(15, 0)]) (List.mem_singleton_self (16, 0))
  refine k_putF2 (C := RX3) (T := TX3) (N := 5) (v := .ref a16_4) (ty := (.array .int)) hx hb hts inB_X3 tyX3 tyX3_ok nmX3 hown hK hw ma0 ha0 ((up2_n (by decide)).trans up2_eq) rfl 3 (by decide) (hts _ w_f_X3_21) (fun _ h9 => h9) hin rfl rfl (by decide +kernel) rfl rfl (Nat.le_of_ble_eq_true rfl) dX3_init_32 (fun H locs hw => ?_)
  refine k_vretx hx hb hr hlocks hw hX ?_ (Nat.le_of_ble_eq_true rfl) (Nat.le_of_ble_eq_true rfl) dX3_init_35
  show cX cI cJ u4 ce [(2, 0), (13, 0), (14, 0), (15, 0), (16, 0)] = _
  funext f o
  unfold cX
  by_cases h : (f, o) ∈ ([(2, 0), (13, 0), (14, 0), (15, 0), (16, 0)] : List (Nat × Nat))
  · rw [if_pos h]
    simp only [List.mem_cons, List.not_mem_nil, or_false, Prod.mk.injEq] at h
    rcases h with ⟨rfl, rfl⟩ | ⟨rfl, rfl⟩ | ⟨rfl, rfl⟩ | ⟨rfl, rfl⟩ | ⟨rfl, rfl⟩
    · refine Eq.trans ?_ (up2_eq).symm
      rw [cc_2, ha13_1, ha14_2, ha15_3, ha16_4]
      all_goals rfl
    · refine Eq.trans ?_ (((up2_n (by decide)).trans ((up2_n (by decide)).trans ((up2_n (by decide)).trans ((up2_n (by decide)).trans ((up2_n (by decide)).trans ((up2_n (by decide)).trans ((up2_n (by decide)).trans up2_eq)))))))).symm
      rfl
    · refine Eq.trans ?_ (((up2_n (by decide)).trans ((up2_n (by decide)).trans ((up2_n (by decide)).trans ((up2_n (by decide)).trans ((up2_n (by decide)).trans up2_eq)))))).symm
      rfl
    · refine Eq.trans ?_ (((up2_n (by decide)).trans ((up2_n (by decide)).trans ((up2_n (by decide)).trans up2_eq)))).symm
      rfl
    · refine Eq.trans ?_ (((up2_n (by decide)).trans up2_eq)).symm
      rfl
  · rw [if_neg h]
    have z13 : ¬ (f = 13 ∧ o = 0) := fun z => h (by rw [z.1, z.2]; simp)
    have z2 : ¬ (f = 2 ∧ o = 0) := fun z => h (by rw [z.1, z.2]; simp)
    have z14 : ¬ (f = 14 ∧ o = 0) := fun z => h (by rw [z.1, z.2]; simp)
    have z15 : ¬ (f = 15 ∧ o = 0) := fun z => h (by rw [z.1, z.2]; simp)
    have z16 : ¬ (f = 16 ∧ o = 0) := fun z => h (by rw [z.1, z.2]; simp)
    exact ((up2_o z2).trans ((up2_o z16).trans ((up2_o z2).trans ((up2_o z15).trans ((up2_o z2).trans ((up2_o z14).trans ((up2_o z2).trans ((up2_o z13).trans rfl)))))))).symm

abbrev bw_X4_init : List Cond := .code yX4_init cX4_init 1 none :: BIG
abbrev rm_X4_init : Room := { frames := 1, cells := 4, slots := 80, locals := 12 }
set_option maxHeartbeats 1000000 in
set_option maxRecDepth 100000 in
theorem ct_X4_init {l : Launch} {D : va_G} {cI cG cJ cO : ClassId} {K0 : Nat → Nat} {A : Nat → Prop} {L : List (Nat × Nat)} {ad : Nat → Nat → Nat} {ce : Nat → Nat → va_E} {a0 : Nat} (ma0 : (3, 0) ∈ L) (ha0 : ad 3 0 = a0) (hc : ce 3 0 = .inr (4, [.null, .null, .null, .null, .int 0])) (n17 : (17, 0) ∉ L) (n18 : (18, 0) ∉ L) (n19 : (19, 0) ∉ L) (n20 : (20, 0) ∉ L) (sz : Nat) (hA : ∀ q, sz ≤ q → A q) : Met l yX4_init bw_X4_init rm_X4_init (kP D (ktys cI cG cJ cO) K0 A L ad ce sz [.ref a0]) (kQx D A L ad (L ++ [(17, 0)] ++ [(18, 0)] ++ [(19, 0)] ++ [(20, 0)]) (fun u => cX cI cJ u ce [(3, 0), (17, 0), (18, 0), (19, 0), (20, 0)])) 4 80 A := by
  refine Met.ofW (cc := cX4_init) (maxL := 1) (ret := none) (by decide) rfl ?_
  intro p e s m args below meth c s₁ B hml hv
  obtain ⟨hav, hsz, hP, hD, hK, hO⟩ := hv
  have hx := B.exec
  have hb := B.bytes
  have hr := B.returns
  have hts : ∀ w ∈ BIG, w.before args s = true := fun w h => atoms_spec (ws := bw_X4_init) B.pre w (List.mem_cons_of_mem _ h)
  have hown : s.vm.findClass RX4 = some m.cls := findClass_of_methodNamed B.named
  have hlocks := B.notSynchronized
  have hin : meth.name = "<init>" := (name_of_methodNamed B.named B.method).1
  subst hsz
  have hw := wk.start hP hD
  refine k_start (by rfl) hav (Nat.le_of_ble_eq_true rfl) (fun ls hl => ?_)
  have hl : lv_has ls 1 [(0, .ref a0)] := hl
  have hX : Ex L ad ad := fun _ _ _ => rfl
  have hs : ∀ i, i ∈ L → i ∈ L := fun _ h => h
  refine lv_aload_n hx hb dX4_init_0 rfl (lv_at hl 0 rfl) ?_
  refine W.objInit hx hb hown (hts _ w_oi_X4) (hts _ w_oi_im) (hts _ w_oi_co) rfl (by rw [hml]; exact hl.1) rfl dX4_init_1 (Nat.le_of_ble_eq_true rfl) (Nat.le_of_ble_eq_true rfl) ?_
  refine W.eq (g2 := F0 m 4 ls []) rfl ?_
  refine lv_aload_n hx hb dX4_init_4 rfl (lv_at hl 0 rfl) ?_
  refine lv_bipush (v := 20) hx hb dX4_init_5 (by decide) ?_
  refine k_newi2 hx hb (hts _ w_ac_int) hK hw hA (n := 20) (N' := 20) (by decide) (by decide) (Nat.le_of_ble_eq_true rfl) (Nat.le_of_ble_eq_true rfl) (Nat.le_of_ble_eq_true rfl) 17 0 n17 dX4_init_7 (fun u1 a17_1 H hE1 ha17_1 hw => ?_)
  have ha0 := (hE1 _ _ ma0).trans ha0
  have ma0 := List.mem_append_left [(17, 0)] ma0
  have hX := Ex.tr hX hE1 hs
  have hs := fun i h => List.mem_append_left [(17, 0)] (hs i h)
  have ma17_1 := List.mem_append_right L (List.mem_singleton_self (17, 0))
  have n18 := nmemf (g := 17) (p := 0) n18 (by decide)
  have n19 := nmemf (g := 17) (p := 0) n19 (by decide)
  have n20 := nmemf (g := 17) (p := 0) n20 (by decide)
  refine k_putF2 (C := RX4) (T := TX4) (N := 5) (v := .ref a17_1) (ty := (.array .int)) hx hb hts inB_X4 tyX4 tyX4_ok nmX4 hown hK hw ma0 ha0 ((up2_n (by decide)).trans hc) rfl 0 (by decide) (hts _ w_f_X4_9) (fun _ h9 => h9) hin rfl rfl (by decide +kernel) rfl rfl (Nat.le_of_ble_eq_true rfl) dX4_init_9 (fun H locs hw => ?_)
  refine lv_aload_n hx hb dX4_init_12 rfl (lv_at hl 0 rfl) ?_
  refine lv_bipush (v := 20) hx hb dX4_init_13 (by decide) ?_
  refine k_newi2 hx hb (hts _ w_ac_int) hK hw hA (n := 20) (N' := 20) (by decide) (by decide) (Nat.le_of_ble_eq_true rfl) (Nat.le_of_ble_eq_true rfl) (Nat.le_of_ble_eq_true rfl) 18 0 n18 dX4_init_15 (fun u2 a18_2 H hE2 ha18_2 hw => ?_)
  have ha0 := (hE2 _ _ ma0).trans ha0
  have ha17_1 := (hE2 _ _ ma17_1).trans ha17_1
  have ma0 := List.mem_append_left [(18, 0)] ma0
  have ma17_1 := List.mem_append_left [(18, 0)] ma17_1
  have hX := Ex.tr hX hE2 hs
  have hs := fun i h => List.mem_append_left [(18, 0)] (hs i h)
  have ma18_2 := List.mem_append_right (L ++ [(17, 0)]) (List.mem_singleton_self (18, 0))
  have n19 := nmemf (g := 18) (p := 0) n19 (by decide)
  have n20 := nmemf (g := 18) (p := 0) n20 (by decide)
  refine k_putF2 (C := RX4) (T := TX4) (N := 5) (v := .ref a18_2) (ty := (.array .int)) hx hb hts inB_X4 tyX4 tyX4_ok nmX4 hown hK hw ma0 ha0 ((up2_n (by decide)).trans up2_eq) rfl 1 (by decide) (hts _ w_f_X4_15) (fun _ h9 => h9) hin rfl rfl (by decide +kernel) rfl rfl (Nat.le_of_ble_eq_true rfl) dX4_init_17 (fun H locs hw => ?_)
  refine lv_aload_n hx hb dX4_init_20 rfl (lv_at hl 0 rfl) ?_
  refine lv_bipush (v := 20) hx hb dX4_init_21 (by decide) ?_
  refine k_newi2 hx hb (hts _ w_ac_int) hK hw hA (n := 20) (N' := 20) (by decide) (by decide) (Nat.le_of_ble_eq_true rfl) (Nat.le_of_ble_eq_true rfl) (Nat.le_of_ble_eq_true rfl) 19 0 n19 dX4_init_23 (fun u3 a19_3 H hE3 ha19_3 hw => ?_)
  have ha0 := (hE3 _ _ ma0).trans ha0
  have ha17_1 := (hE3 _ _ ma17_1).trans ha17_1
  have ha18_2 := (hE3 _ _ ma18_2).trans ha18_2
  have ma0 := List.mem_append_left [(19, 0)] ma0
  have ma17_1 := List.mem_append_left [(19, 0)] ma17_1
  have ma18_2 := List.mem_append_left [(19, 0)] ma18_2
  have hX := Ex.tr hX hE3 hs
  have hs := fun i h => List.mem_append_left [(19, 0)] (hs i h)
  have ma19_3 := List.mem_append_right (L ++ [(17, 0)] ++ [(18, 0)]) (List.mem_singleton_self (19, 0))
  have n20 := nmemf (g := 19) (p := 0) n20 (by decide)
  refine k_putF2 (C := RX4) (T := TX4) (N := 5) (v := .ref a19_3) (ty := (.array .int)) hx hb hts inB_X4 tyX4 tyX4_ok nmX4 hown hK hw ma0 ha0 ((up2_n (by decide)).trans up2_eq) rfl 2 (by decide) (hts _ w_f_X4_18) (fun _ h9 => h9) hin rfl rfl (by decide +kernel) rfl rfl (Nat.le_of_ble_eq_true rfl) dX4_init_25 (fun H locs hw => ?_)
  refine lv_aload_n hx hb dX4_init_28 rfl (lv_at hl 0 rfl) ?_
  refine lv_bipush (v := 20) hx hb dX4_init_29 (by decide) ?_
  refine k_newi2 hx hb (hts _ w_ac_int) hK hw hA (n := 20) (N' := 20) (by decide) (by decide) (Nat.le_of_ble_eq_true rfl) (Nat.le_of_ble_eq_true rfl) (Nat.le_of_ble_eq_true rfl) 20 0 n20 dX4_init_31 (fun u4 a20_4 H hE4 ha20_4 hw => ?_)
  have ha0 := (hE4 _ _ ma0).trans ha0
  have ha17_1 := (hE4 _ _ ma17_1).trans ha17_1
  have ha18_2 := (hE4 _ _ ma18_2).trans ha18_2
  have ha19_3 := (hE4 _ _ ma19_3).trans ha19_3
  have ma0 := List.mem_append_left [(20, 0)] ma0
  have ma17_1 := List.mem_append_left [(20, 0)] ma17_1
  have ma18_2 := List.mem_append_left [(20, 0)] ma18_2
  have ma19_3 := List.mem_append_left [(20, 0)] ma19_3
  have hX := Ex.tr hX hE4 hs
  have hs := fun i h => List.mem_append_left [(20, 0)] (hs i h)
  have ma20_4 := List.mem_append_right (L ++ [(17, 0)] ++ [(18, 0)] ++ [(19, 0)]) (List.mem_singleton_self (20, 0))
  refine k_putF2 (C := RX4) (T := TX4) (N := 5) (v := .ref a20_4) (ty := (.array .int)) hx hb hts inB_X4 tyX4 tyX4_ok nmX4 hown hK hw ma0 ha0 ((up2_n (by decide)).trans up2_eq) rfl 3 (by decide) (hts _ w_f_X4_21) (fun _ h9 => h9) hin rfl rfl (by decide +kernel) rfl rfl (Nat.le_of_ble_eq_true rfl) dX4_init_33 (fun H locs hw => ?_)
  refine k_vretx hx hb hr hlocks hw hX ?_ (Nat.le_of_ble_eq_true rfl) (Nat.le_of_ble_eq_true rfl) dX4_init_36
  show cX cI cJ u4 ce [(3, 0), (17, 0), (18, 0), (19, 0), (20, 0)] = _
  funext f o
  unfold cX
  by_cases h : (f, o) ∈ ([(3, 0), (17, 0), (18, 0), (19, 0), (20, 0)] : List (Nat × Nat))
  · rw [if_pos h]
    simp only [List.mem_cons, List.not_mem_nil, or_false, Prod.mk.injEq] at h
    rcases h with ⟨rfl, rfl⟩ | ⟨rfl, rfl⟩ | ⟨rfl, rfl⟩ | ⟨rfl, rfl⟩ | ⟨rfl, rfl⟩
    · refine Eq.trans ?_ (up2_eq).symm
      rw [cc_3, ha17_1, ha18_2, ha19_3, ha20_4]
      all_goals rfl
    · refine Eq.trans ?_ (((up2_n (by decide)).trans ((up2_n (by decide)).trans ((up2_n (by decide)).trans ((up2_n (by decide)).trans ((up2_n (by decide)).trans ((up2_n (by decide)).trans ((up2_n (by decide)).trans up2_eq)))))))).symm
      rfl
    · refine Eq.trans ?_ (((up2_n (by decide)).trans ((up2_n (by decide)).trans ((up2_n (by decide)).trans ((up2_n (by decide)).trans ((up2_n (by decide)).trans up2_eq)))))).symm
      rfl
    · refine Eq.trans ?_ (((up2_n (by decide)).trans ((up2_n (by decide)).trans ((up2_n (by decide)).trans up2_eq)))).symm
      rfl
    · refine Eq.trans ?_ (((up2_n (by decide)).trans up2_eq)).symm
      rfl
  · rw [if_neg h]
    have z17 : ¬ (f = 17 ∧ o = 0) := fun z => h (by rw [z.1, z.2]; simp)
    have z3 : ¬ (f = 3 ∧ o = 0) := fun z => h (by rw [z.1, z.2]; simp)
    have z18 : ¬ (f = 18 ∧ o = 0) := fun z => h (by rw [z.1, z.2]; simp)
    have z19 : ¬ (f = 19 ∧ o = 0) := fun z => h (by rw [z.1, z.2]; simp)
    have z20 : ¬ (f = 20 ∧ o = 0) := fun z => h (by rw [z.1, z.2]; simp)
    exact ((up2_o z3).trans ((up2_o z20).trans ((up2_o z3).trans ((up2_o z19).trans ((up2_o z3).trans ((up2_o z18).trans ((up2_o z3).trans ((up2_o z17).trans rfl)))))))).symm

abbrev bw_X0_init : List Cond := .code yX0_init cX0_init 4 none :: BIG
abbrev rm_X0_init : Room := { frames := 1, cells := 3, slots := 28, locals := 12 }
set_option maxHeartbeats 1000000 in
set_option maxRecDepth 100000 in
theorem ct_X0_init {l : Launch} {D : va_G} {cI cG cJ cO : ClassId} {K0 : Nat → Nat} {A : Nat → Prop} {L : List (Nat × Nat)} {ad : Nat → Nat → Nat} {ce : Nat → Nat → va_E} {a0 : Nat} (ma0 : (4, 0) ∈ L) (ha0 : ad 4 0 = a0) (hc : ce 4 0 = .inr (0, [.null, .null, .null, .null, .null, .null, .int 0])) (n21 : (21, 0) ∉ L) (n22 : (22, 0) ∉ L) (n23 : (23, 0) ∉ L) {b1 : Nat} (mb1 : (1, 0) ∈ L) (hb1 : ad 1 0 = b1) {b2 : Nat} (mb2 : (2, 0) ∈ L) (hb2 : ad 2 0 = b2) {b3 : Nat} (mb3 : (3, 0) ∈ L) (hb3 : ad 3 0 = b3) (sz : Nat) (hA : ∀ q, sz ≤ q → A q) : Met l yX0_init bw_X0_init rm_X0_init (kP D (ktys cI cG cJ cO) K0 A L ad ce sz [.ref a0, .ref b1, .ref b2, .ref b3]) (kQx D A L ad (L ++ [(21, 0)] ++ [(22, 0)] ++ [(23, 0)]) (fun u => cX cI cJ u ce [(4, 0), (21, 0), (22, 0), (23, 0)])) 3 28 A := by
  refine Met.ofW (cc := cX0_init) (maxL := 4) (ret := none) (by decide) rfl ?_
  intro p e s m args below meth c s₁ B hml hv
  obtain ⟨hav, hsz, hP, hD, hK, hO⟩ := hv
  have hx := B.exec
  have hb := B.bytes
  have hr := B.returns
  have hts : ∀ w ∈ BIG, w.before args s = true := fun w h => atoms_spec (ws := bw_X0_init) B.pre w (List.mem_cons_of_mem _ h)
  have hown : s.vm.findClass RX0 = some m.cls := findClass_of_methodNamed B.named
  have hlocks := B.notSynchronized
  have hin : meth.name = "<init>" := (name_of_methodNamed B.named B.method).1
  subst hsz
  have hw := wk.start hP hD
  refine k_start (by rfl) hav (Nat.le_of_ble_eq_true rfl) (fun ls hl => ?_)
  have hl : lv_has ls 4 [(0, .ref a0), (1, .ref b1), (2, .ref b2), (3, .ref b3)] := hl
  have hX : Ex L ad ad := fun _ _ _ => rfl
  have hs : ∀ i, i ∈ L → i ∈ L := fun _ h => h
  refine lv_aload_n hx hb dX0_init_0 rfl (lv_at hl 0 rfl) ?_
  refine W.objInit hx hb hown (hts _ w_oi_X0) (hts _ w_oi_im) (hts _ w_oi_co) rfl (by rw [hml]; exact hl.1) rfl dX0_init_1 (Nat.le_of_ble_eq_true rfl) (Nat.le_of_ble_eq_true rfl) ?_
  refine W.eq (g2 := F0 m 4 ls []) rfl ?_
  refine lv_aload_n hx hb dX0_init_4 rfl (lv_at hl 0 rfl) ?_
  refine lv_iconst (v := 4) hx hb dX0_init_5 (by decide) ?_
  refine k_newi2 hx hb (hts _ w_ac_int) hK hw hA (n := 4) (N' := 4) (by decide) (by decide) (Nat.le_of_ble_eq_true rfl) (Nat.le_of_ble_eq_true rfl) (Nat.le_of_ble_eq_true rfl) 21 0 n21 dX0_init_6 (fun u1 a21_1 H hE1 ha21_1 hw => ?_)
  have ha0 := (hE1 _ _ ma0).trans ha0
  have hb1 := (hE1 _ _ mb1).trans hb1
  have hb2 := (hE1 _ _ mb2).trans hb2
  have hb3 := (hE1 _ _ mb3).trans hb3
  have ma0 := List.mem_append_left [(21, 0)] ma0
  have mb1 := List.mem_append_left [(21, 0)] mb1
  have mb2 := List.mem_append_left [(21, 0)] mb2
  have mb3 := List.mem_append_left [(21, 0)] mb3
  have hX := Ex.tr hX hE1 hs
  have hs := fun i h => List.mem_append_left [(21, 0)] (hs i h)
  have ma21_1 := List.mem_append_right L (List.mem_singleton_self (21, 0))
  have n22 := nmemf (g := 21) (p := 0) n22 (by decide)
  have n23 := nmemf (g := 21) (p := 0) n23 (by decide)
  refine k_putF2 (C := RX0) (T := TX0) (N := 7) (v := .ref a21_1) (ty := (.array .int)) hx hb hts inB_X0 tyX0 tyX0_ok nmX0 hown hK hw ma0 ha0 ((up2_n (by decide)).trans hc) rfl 3 (by decide) (hts _ w_f_X0_9) (fun _ h9 => h9) hin rfl rfl (by decide +kernel) rfl rfl (Nat.le_of_ble_eq_true rfl) dX0_init_8 (fun H locs hw => ?_)
  refine lv_aload_n hx hb dX0_init_11 rfl (lv_at hl 0 rfl) ?_
  refine lv_bipush (v := 12) hx hb dX0_init_12 (by decide) ?_
  refine k_newi2 hx hb (hts _ w_ac_int) hK hw hA (n := 12) (N' := 12) (by decide) (by decide) (Nat.le_of_ble_eq_true rfl) (Nat.le_of_ble_eq_true rfl) (Nat.le_of_ble_eq_true rfl) 22 0 n22 dX0_init_14 (fun u2 a22_2 H hE2 ha22_2 hw => ?_)
  have ha0 := (hE2 _ _ ma0).trans ha0
  have hb1 := (hE2 _ _ mb1).trans hb1
  have hb2 := (hE2 _ _ mb2).trans hb2
  have hb3 := (hE2 _ _ mb3).trans hb3
  have ha21_1 := (hE2 _ _ ma21_1).trans ha21_1
  have ma0 := List.mem_append_left [(22, 0)] ma0
  have mb1 := List.mem_append_left [(22, 0)] mb1
  have mb2 := List.mem_append_left [(22, 0)] mb2
  have mb3 := List.mem_append_left [(22, 0)] mb3
  have ma21_1 := List.mem_append_left [(22, 0)] ma21_1
  have hX := Ex.tr hX hE2 hs
  have hs := fun i h => List.mem_append_left [(22, 0)] (hs i h)
  have ma22_2 := List.mem_append_right (L ++ [(21, 0)]) (List.mem_singleton_self (22, 0))
  have n23 := nmemf (g := 22) (p := 0) n23 (by decide)
  refine k_putF2 (C := RX0) (T := TX0) (N := 7) (v := .ref a22_2) (ty := (.array .int)) hx hb hts inB_X0 tyX0 tyX0_ok nmX0 hown hK hw ma0 ha0 ((up2_n (by decide)).trans up2_eq) rfl 4 (by decide) (hts _ w_f_X0_15) (fun _ h9 => h9) hin rfl rfl (by decide +kernel) rfl rfl (Nat.le_of_ble_eq_true rfl) dX0_init_16 (fun H locs hw => ?_)
  refine lv_aload_n hx hb dX0_init_19 rfl (lv_at hl 0 rfl) ?_
  refine lv_bipush (v := 12) hx hb dX0_init_20 (by decide) ?_
  refine k_newi2 hx hb (hts _ w_ac_int) hK hw hA (n := 12) (N' := 12) (by decide) (by decide) (Nat.le_of_ble_eq_true rfl) (Nat.le_of_ble_eq_true rfl) (Nat.le_of_ble_eq_true rfl) 23 0 n23 dX0_init_22 (fun u3 a23_3 H hE3 ha23_3 hw => ?_)
  have ha0 := (hE3 _ _ ma0).trans ha0
  have hb1 := (hE3 _ _ mb1).trans hb1
  have hb2 := (hE3 _ _ mb2).trans hb2
  have hb3 := (hE3 _ _ mb3).trans hb3
  have ha21_1 := (hE3 _ _ ma21_1).trans ha21_1
  have ha22_2 := (hE3 _ _ ma22_2).trans ha22_2
  have ma0 := List.mem_append_left [(23, 0)] ma0
  have mb1 := List.mem_append_left [(23, 0)] mb1
  have mb2 := List.mem_append_left [(23, 0)] mb2
  have mb3 := List.mem_append_left [(23, 0)] mb3
  have ma21_1 := List.mem_append_left [(23, 0)] ma21_1
  have ma22_2 := List.mem_append_left [(23, 0)] ma22_2
  have hX := Ex.tr hX hE3 hs
  have hs := fun i h => List.mem_append_left [(23, 0)] (hs i h)
  have ma23_3 := List.mem_append_right (L ++ [(21, 0)] ++ [(22, 0)]) (List.mem_singleton_self (23, 0))
  refine k_putF2 (C := RX0) (T := TX0) (N := 7) (v := .ref a23_3) (ty := (.array .int)) hx hb hts inB_X0 tyX0 tyX0_ok nmX0 hown hK hw ma0 ha0 ((up2_n (by decide)).trans up2_eq) rfl 5 (by decide) (hts _ w_f_X0_18) (fun _ h9 => h9) hin rfl rfl (by decide +kernel) rfl rfl (Nat.le_of_ble_eq_true rfl) dX0_init_24 (fun H locs hw => ?_)
  refine lv_aload_n hx hb dX0_init_27 rfl (lv_at hl 0 rfl) ?_
  refine lv_aload_n hx hb dX0_init_28 rfl (lv_at hl 1 rfl) ?_
  refine k_putF2 (C := RX0) (T := TX0) (N := 7) (v := .ref b1) (ty := (.object "OnboardingWorks$Plan")) hx hb hts inB_X0 tyX0 tyX0_ok nmX0 hown hK hw ma0 ha0 up2_eq rfl 0 (by decide) (hts _ w_f_X0_21) (fun _ h9 => h9) hin rfl rfl (by decide +kernel) rfl rfl (Nat.le_of_ble_eq_true rfl) dX0_init_29 (fun H locs hw => ?_)
  refine lv_aload_n hx hb dX0_init_32 rfl (lv_at hl 0 rfl) ?_
  refine lv_aload_n hx hb dX0_init_33 rfl (lv_at hl 2 rfl) ?_
  refine k_putF2 (C := RX0) (T := TX0) (N := 7) (v := .ref b2) (ty := (.object "OnboardingWorks$Storeroom")) hx hb hts inB_X0 tyX0 tyX0_ok nmX0 hown hK hw ma0 ha0 up2_eq rfl 1 (by decide) (hts _ w_f_X0_25) (fun _ h9 => h9) hin rfl rfl (by decide +kernel) rfl rfl (Nat.le_of_ble_eq_true rfl) dX0_init_34 (fun H locs hw => ?_)
  refine lv_aload_n hx hb dX0_init_37 rfl (lv_at hl 0 rfl) ?_
  refine lv_aload_n hx hb dX0_init_38 rfl (lv_at hl 3 rfl) ?_
  refine k_putF2 (C := RX0) (T := TX0) (N := 7) (v := .ref b3) (ty := (.object "OnboardingWorks$Timetable")) hx hb hts inB_X0 tyX0 tyX0_ok nmX0 hown hK hw ma0 ha0 up2_eq rfl 2 (by decide) (hts _ w_f_X0_29) (fun _ h9 => h9) hin rfl rfl (by decide +kernel) rfl rfl (Nat.le_of_ble_eq_true rfl) dX0_init_39 (fun H locs hw => ?_)
  refine k_vretx hx hb hr hlocks hw hX ?_ (Nat.le_of_ble_eq_true rfl) (Nat.le_of_ble_eq_true rfl) dX0_init_42
  show cX cI cJ u3 ce [(4, 0), (21, 0), (22, 0), (23, 0)] = _
  funext f o
  unfold cX
  by_cases h : (f, o) ∈ ([(4, 0), (21, 0), (22, 0), (23, 0)] : List (Nat × Nat))
  · rw [if_pos h]
    simp only [List.mem_cons, List.not_mem_nil, or_false, Prod.mk.injEq] at h
    rcases h with ⟨rfl, rfl⟩ | ⟨rfl, rfl⟩ | ⟨rfl, rfl⟩ | ⟨rfl, rfl⟩
    · refine Eq.trans ?_ (up2_eq).symm
      rw [cc_4, hb1, hb2, hb3, ha21_1, ha22_2, ha23_3]
      all_goals rfl
    · refine Eq.trans ?_ (((up2_n (by decide)).trans ((up2_n (by decide)).trans ((up2_n (by decide)).trans ((up2_n (by decide)).trans ((up2_n (by decide)).trans ((up2_n (by decide)).trans ((up2_n (by decide)).trans ((up2_n (by decide)).trans up2_eq))))))))).symm
      rfl
    · refine Eq.trans ?_ (((up2_n (by decide)).trans ((up2_n (by decide)).trans ((up2_n (by decide)).trans ((up2_n (by decide)).trans ((up2_n (by decide)).trans ((up2_n (by decide)).trans up2_eq))))))).symm
      rfl
    · refine Eq.trans ?_ (((up2_n (by decide)).trans ((up2_n (by decide)).trans ((up2_n (by decide)).trans ((up2_n (by decide)).trans up2_eq))))).symm
      rfl
  · rw [if_neg h]
    have z21 : ¬ (f = 21 ∧ o = 0) := fun z => h (by rw [z.1, z.2]; simp)
    have z4 : ¬ (f = 4 ∧ o = 0) := fun z => h (by rw [z.1, z.2]; simp)
    have z22 : ¬ (f = 22 ∧ o = 0) := fun z => h (by rw [z.1, z.2]; simp)
    have z23 : ¬ (f = 23 ∧ o = 0) := fun z => h (by rw [z.1, z.2]; simp)
    exact ((up2_o z4).trans ((up2_o z4).trans ((up2_o z4).trans ((up2_o z4).trans ((up2_o z23).trans ((up2_o z4).trans ((up2_o z22).trans ((up2_o z4).trans ((up2_o z21).trans rfl))))))))).symm

abbrev bw_X1_init : List Cond := .code yX1_init cX1_init 2 none :: BIG
abbrev rm_X1_init : Room := { frames := 1, cells := 5, slots := 60, locals := 12 }
set_option maxHeartbeats 1000000 in
set_option maxRecDepth 100000 in
theorem ct_X1_init {l : Launch} {D : va_G} {cI cG cJ cO : ClassId} {K0 : Nat → Nat} {A : Nat → Prop} {L : List (Nat × Nat)} {ad : Nat → Nat → Nat} {ce : Nat → Nat → va_E} {j : Nat} {a0 : Nat} (ma0 : (6, j) ∈ L) (ha0 : ad 6 j = a0) (hc : ce 6 j = .inr (1, [.null, .null, .null, .null, .null, .int 0, .int 0, .int 0])) (n24 : (24, j) ∉ L) (n25 : (25, j) ∉ L) (n26 : (26, j) ∉ L) (n27 : (27, j) ∉ L) (n28 : (28, j) ∉ L) (sz : Nat) (hA : ∀ q, sz ≤ q → A q) : Met l yX1_init bw_X1_init rm_X1_init (kP D (ktys cI cG cJ cO) K0 A L ad ce sz [.ref a0]) (kQx D A L ad (L ++ [(24, j)] ++ [(25, j)] ++ [(26, j)] ++ [(27, j)] ++ [(28, j)]) (fun u => cX cI cJ u ce [(6, j), (24, j), (25, j), (26, j), (27, j), (28, j)])) 5 60 A := by
  refine Met.ofW (cc := cX1_init) (maxL := 2) (ret := none) (by decide) rfl ?_
  intro p e s m args below meth c s₁ B hml hv
  obtain ⟨hav, hsz, hP, hD, hK, hO⟩ := hv
  have hx := B.exec
  have hb := B.bytes
  have hr := B.returns
  have hts : ∀ w ∈ BIG, w.before args s = true := fun w h => atoms_spec (ws := bw_X1_init) B.pre w (List.mem_cons_of_mem _ h)
  have hown : s.vm.findClass RX1 = some m.cls := findClass_of_methodNamed B.named
  have hlocks := B.notSynchronized
  have hin : meth.name = "<init>" := (name_of_methodNamed B.named B.method).1
  subst hsz
  have hw := wk.start hP hD
  refine k_start (by rfl) hav (Nat.le_of_ble_eq_true rfl) (fun ls hl => ?_)
  have hl : lv_has ls 2 [(0, .ref a0)] := hl
  have hX : Ex L ad ad := fun _ _ _ => rfl
  have hs : ∀ i, i ∈ L → i ∈ L := fun _ h => h
  refine lv_aload_n hx hb dX1_init_0 rfl (lv_at hl 0 rfl) ?_
  refine W.objInit hx hb hown (hts _ w_oi_X1) (hts _ w_oi_im) (hts _ w_oi_co) rfl (by rw [hml]; exact hl.1) rfl dX1_init_1 (Nat.le_of_ble_eq_true rfl) (Nat.le_of_ble_eq_true rfl) ?_
  refine W.eq (g2 := F0 m 4 ls []) rfl ?_
  refine lv_aload_n hx hb dX1_init_4 rfl (lv_at hl 0 rfl) ?_
  refine lv_bipush (v := 12) hx hb dX1_init_5 (by decide) ?_
  refine k_newi2 hx hb (hts _ w_ac_int) hK hw hA (n := 12) (N' := 12) (by decide) (by decide) (Nat.le_of_ble_eq_true rfl) (Nat.le_of_ble_eq_true rfl) (Nat.le_of_ble_eq_true rfl) 24 j n24 dX1_init_7 (fun u1 a24_1 H hE1 ha24_1 hw => ?_)
  have ha0 := (hE1 _ _ ma0).trans ha0
  have ma0 := List.mem_append_left [(24, j)] ma0
  have hX := Ex.tr hX hE1 hs
  have hs := fun i h => List.mem_append_left [(24, j)] (hs i h)
  have ma24_1 := List.mem_append_right L (List.mem_singleton_self (24, j))
  have n25 := nmemf (g := 24) (p := j) n25 (by decide)
  have n26 := nmemf (g := 24) (p := j) n26 (by decide)
  have n27 := nmemf (g := 24) (p := j) n27 (by decide)
  have n28 := nmemf (g := 24) (p := j) n28 (by decide)
  refine k_putF2 (C := RX1) (T := TX1) (N := 8) (v := .ref a24_1) (ty := (.array .int)) hx hb hts inB_X1 tyX1 tyX1_ok nmX1 hown hK hw ma0 ha0 ((up2_n (by decide)).trans hc) rfl 0 (by decide) (hts _ w_f_X1_9) (fun _ h9 => h9) hin rfl rfl (by decide +kernel) rfl rfl (Nat.le_of_ble_eq_true rfl) dX1_init_9 (fun H locs hw => ?_)
  refine lv_aload_n hx hb dX1_init_12 rfl (lv_at hl 0 rfl) ?_
  refine lv_bipush (v := 12) hx hb dX1_init_13 (by decide) ?_
  refine k_newi2 hx hb (hts _ w_ac_int) hK hw hA (n := 12) (N' := 12) (by decide) (by decide) (Nat.le_of_ble_eq_true rfl) (Nat.le_of_ble_eq_true rfl) (Nat.le_of_ble_eq_true rfl) 25 j n25 dX1_init_15 (fun u2 a25_2 H hE2 ha25_2 hw => ?_)
  have ha0 := (hE2 _ _ ma0).trans ha0
  have ha24_1 := (hE2 _ _ ma24_1).trans ha24_1
  have ma0 := List.mem_append_left [(25, j)] ma0
  have ma24_1 := List.mem_append_left [(25, j)] ma24_1
  have hX := Ex.tr hX hE2 hs
  have hs := fun i h => List.mem_append_left [(25, j)] (hs i h)
  have ma25_2 := List.mem_append_right (L ++ [(24, j)]) (List.mem_singleton_self (25, j))
  have n26 := nmemf (g := 25) (p := j) n26 (by decide)
  have n27 := nmemf (g := 25) (p := j) n27 (by decide)
  have n28 := nmemf (g := 25) (p := j) n28 (by decide)
  refine k_putF2 (C := RX1) (T := TX1) (N := 8) (v := .ref a25_2) (ty := (.array .int)) hx hb hts inB_X1 tyX1 tyX1_ok nmX1 hown hK hw ma0 ha0 ((up2_n (by decide)).trans up2_eq) rfl 1 (by decide) (hts _ w_f_X1_15) (fun _ h9 => h9) hin rfl rfl (by decide +kernel) rfl rfl (Nat.le_of_ble_eq_true rfl) dX1_init_17 (fun H locs hw => ?_)
  refine lv_aload_n hx hb dX1_init_20 rfl (lv_at hl 0 rfl) ?_
  refine lv_bipush (v := 12) hx hb dX1_init_21 (by decide) ?_
  refine k_newi2 hx hb (hts _ w_ac_int) hK hw hA (n := 12) (N' := 12) (by decide) (by decide) (Nat.le_of_ble_eq_true rfl) (Nat.le_of_ble_eq_true rfl) (Nat.le_of_ble_eq_true rfl) 26 j n26 dX1_init_23 (fun u3 a26_3 H hE3 ha26_3 hw => ?_)
  have ha0 := (hE3 _ _ ma0).trans ha0
  have ha24_1 := (hE3 _ _ ma24_1).trans ha24_1
  have ha25_2 := (hE3 _ _ ma25_2).trans ha25_2
  have ma0 := List.mem_append_left [(26, j)] ma0
  have ma24_1 := List.mem_append_left [(26, j)] ma24_1
  have ma25_2 := List.mem_append_left [(26, j)] ma25_2
  have hX := Ex.tr hX hE3 hs
  have hs := fun i h => List.mem_append_left [(26, j)] (hs i h)
  have ma26_3 := List.mem_append_right (L ++ [(24, j)] ++ [(25, j)]) (List.mem_singleton_self (26, j))
  have n27 := nmemf (g := 26) (p := j) n27 (by decide)
  have n28 := nmemf (g := 26) (p := j) n28 (by decide)
  refine k_putF2 (C := RX1) (T := TX1) (N := 8) (v := .ref a26_3) (ty := (.array .int)) hx hb hts inB_X1 tyX1 tyX1_ok nmX1 hown hK hw ma0 ha0 ((up2_n (by decide)).trans up2_eq) rfl 2 (by decide) (hts _ w_f_X1_18) (fun _ h9 => h9) hin rfl rfl (by decide +kernel) rfl rfl (Nat.le_of_ble_eq_true rfl) dX1_init_25 (fun H locs hw => ?_)
  refine lv_aload_n hx hb dX1_init_28 rfl (lv_at hl 0 rfl) ?_
  refine lv_bipush (v := 12) hx hb dX1_init_29 (by decide) ?_
  refine k_newi2 hx hb (hts _ w_ac_int) hK hw hA (n := 12) (N' := 12) (by decide) (by decide) (Nat.le_of_ble_eq_true rfl) (Nat.le_of_ble_eq_true rfl) (Nat.le_of_ble_eq_true rfl) 27 j n27 dX1_init_31 (fun u4 a27_4 H hE4 ha27_4 hw => ?_)
  have ha0 := (hE4 _ _ ma0).trans ha0
  have ha24_1 := (hE4 _ _ ma24_1).trans ha24_1
  have ha25_2 := (hE4 _ _ ma25_2).trans ha25_2
  have ha26_3 := (hE4 _ _ ma26_3).trans ha26_3
  have ma0 := List.mem_append_left [(27, j)] ma0
  have ma24_1 := List.mem_append_left [(27, j)] ma24_1
  have ma25_2 := List.mem_append_left [(27, j)] ma25_2
  have ma26_3 := List.mem_append_left [(27, j)] ma26_3
  have hX := Ex.tr hX hE4 hs
  have hs := fun i h => List.mem_append_left [(27, j)] (hs i h)
  have ma27_4 := List.mem_append_right (L ++ [(24, j)] ++ [(25, j)] ++ [(26, j)]) (List.mem_singleton_self (27, j))
  have n28 := nmemf (g := 27) (p := j) n28 (by decide)
  refine k_putF2 (C := RX1) (T := TX1) (N := 8) (v := .ref a27_4) (ty := (.array .int)) hx hb hts inB_X1 tyX1 tyX1_ok nmX1 hown hK hw ma0 ha0 ((up2_n (by decide)).trans up2_eq) rfl 3 (by decide) (hts _ w_f_X1_21) (fun _ h9 => h9) hin rfl rfl (by decide +kernel) rfl rfl (Nat.le_of_ble_eq_true rfl) dX1_init_33 (fun H locs hw => ?_)
  refine lv_aload_n hx hb dX1_init_36 rfl (lv_at hl 0 rfl) ?_
  refine lv_bipush (v := 12) hx hb dX1_init_37 (by decide) ?_
  refine k_newi2 hx hb (hts _ w_ac_int) hK hw hA (n := 12) (N' := 12) (by decide) (by decide) (Nat.le_of_ble_eq_true rfl) (Nat.le_of_ble_eq_true rfl) (Nat.le_of_ble_eq_true rfl) 28 j n28 dX1_init_39 (fun u5 a28_5 H hE5 ha28_5 hw => ?_)
  have ha0 := (hE5 _ _ ma0).trans ha0
  have ha24_1 := (hE5 _ _ ma24_1).trans ha24_1
  have ha25_2 := (hE5 _ _ ma25_2).trans ha25_2
  have ha26_3 := (hE5 _ _ ma26_3).trans ha26_3
  have ha27_4 := (hE5 _ _ ma27_4).trans ha27_4
  have ma0 := List.mem_append_left [(28, j)] ma0
  have ma24_1 := List.mem_append_left [(28, j)] ma24_1
  have ma25_2 := List.mem_append_left [(28, j)] ma25_2
  have ma26_3 := List.mem_append_left [(28, j)] ma26_3
  have ma27_4 := List.mem_append_left [(28, j)] ma27_4
  have hX := Ex.tr hX hE5 hs
  have hs := fun i h => List.mem_append_left [(28, j)] (hs i h)
  have ma28_5 := List.mem_append_right (L ++ [(24, j)] ++ [(25, j)] ++ [(26, j)] ++ [(27, j)]) (List.mem_singleton_self (28, j))
  refine k_putF2 (C := RX1) (T := TX1) (N := 8) (v := .ref a28_5) (ty := (.array .int)) hx hb hts inB_X1 tyX1 tyX1_ok nmX1 hown hK hw ma0 ha0 ((up2_n (by decide)).trans up2_eq) rfl 4 (by decide) (hts _ w_f_X1_24) (fun _ h9 => h9) hin rfl rfl (by decide +kernel) rfl rfl (Nat.le_of_ble_eq_true rfl) dX1_init_41 (fun H locs hw => ?_)
  refine lv_iconst (v := 0) hx hb dX1_init_44 (by decide) ?_
  refine lv_istore_n (lv' := [(1, .int 0), (0, .ref a0)]) hx hb dX1_init_45 rfl hl (by decide) rfl (fun ls hl => ?_)
  obtain ⟨CE, hCE⟩ : ∃ CE : Nat → Nat → va_E, CE = up2 (up2 (up2 (up2 (up2 (up2 (up2 (up2 (up2 (up2 ce 24 j (.inl (cI, 12, .inl (fun _ => 0)))) 6 j (.inr (1, [.ref a24_1, .null, .null, .null, .null, .int 0, .int 0, .int 0]))) 25 j (.inl (cI, 12, .inl (fun _ => 0)))) 6 j (.inr (1, [.ref a24_1, .ref a25_2, .null, .null, .null, .int 0, .int 0, .int 0]))) 26 j (.inl (cI, 12, .inl (fun _ => 0)))) 6 j (.inr (1, [.ref a24_1, .ref a25_2, .ref a26_3, .null, .null, .int 0, .int 0, .int 0]))) 27 j (.inl (cI, 12, .inl (fun _ => 0)))) 6 j (.inr (1, [.ref a24_1, .ref a25_2, .ref a26_3, .ref a27_4, .null, .int 0, .int 0, .int 0]))) 28 j (.inl (cI, 12, .inl (fun _ => 0)))) 6 j (.inr (1, [.ref a24_1, .ref a25_2, .ref a26_3, .ref a27_4, .ref a28_5, .int 0, .int 0, .int 0])) := ⟨_, rfl⟩
  have hw : wk D A (L ++ [(24, j)] ++ [(25, j)] ++ [(26, j)] ++ [(27, j)] ++ [(28, j)]) u5 CE s.heap H locs := by rw [hCE]; exact hw
  have hbk : CE 27 j = .inl (cI, 12, .inl (fun _ => 0)) := by rw [hCE]; exact ((up2_n (by decide)).trans ((up2_n (by decide)).trans ((up2_n (by decide)).trans up2_eq)))
  have hth : CE 6 j = .inr (1, [.ref a24_1, .ref a25_2, .ref a26_3, .ref a27_4, .ref a28_5, .int 0, .int 0, .int 0]) := by rw [hCE]; exact up2_eq
  have key : ∀ (k i : Nat) (H : Heap) (locs : List Loc) (ls : Array Slot), i + k = 12 → wk D A (L ++ [(24, j)] ++ [(25, j)] ++ [(26, j)] ++ [(27, j)] ++ [(28, j)]) u5 (up2 CE 27 j (.inl (cI, 12, .inl (fun q => if q < i then (-1 : Int32) else 0)))) s.heap H locs → lv_has ls 2 [(1, .int (nI i)), (0, .ref a0)] → W p l e (headSpec bw_X1_init rm_X1_init).room s m args below meth c H locs 5 60 (MQ below (kQx D A L ad (L ++ [(24, j)] ++ [(25, j)] ++ [(26, j)] ++ [(27, j)] ++ [(28, j)]) (fun u => cX cI cJ u ce [(6, j), (24, j), (25, j), (26, j), (27, j), (28, j)])) args s 5 60 A) (F0 m 46 ls []) := by
    intro k
    induction k with
    | zero =>
      intro i H locs ls hk hw hl
      obtain rfl : i = 12 := hk
      refine lv_iload_n hx hb dX1_init_46 rfl (lv_at hl 0 rfl) ?_
      refine lv_bipush (v := 12) hx hb dX1_init_47 (by decide) ?_
      refine lv_icmp_ge (tgt := 65) hx hb dX1_init_49 (by decide) (fun _ => ?_) (fun h => absurd (by decide) h)
      subst hCE
      refine k_vretx hx hb hr hlocks hw hX ?_ (Nat.le_of_ble_eq_true rfl) (Nat.le_of_ble_eq_true rfl) dX1_init_65
      show cX cI cJ u5 ce [(6, j), (24, j), (25, j), (26, j), (27, j), (28, j)] = _
      funext f o
      unfold cX
      by_cases h : (f, o) ∈ ([(6, j), (24, j), (25, j), (26, j), (27, j), (28, j)] : List (Nat × Nat))
      · rw [if_pos h]
        simp only [List.mem_cons, List.not_mem_nil, or_false, Prod.mk.injEq] at h
        rcases h with ⟨rfl, rfl⟩ | ⟨rfl, rfl⟩ | ⟨rfl, rfl⟩ | ⟨rfl, rfl⟩ | ⟨rfl, rfl⟩ | ⟨rfl, rfl⟩
        · refine Eq.trans ?_ (((up2_n (by decide)).trans up2_eq)).symm
          rw [cc_6, ha24_1, ha25_2, ha26_3, ha27_4, ha28_5]
          all_goals rfl
        · refine Eq.trans ?_ (((up2_n (by decide)).trans ((up2_n (by decide)).trans ((up2_n (by decide)).trans ((up2_n (by decide)).trans ((up2_n (by decide)).trans ((up2_n (by decide)).trans ((up2_n (by decide)).trans ((up2_n (by decide)).trans ((up2_n (by decide)).trans ((up2_n (by decide)).trans up2_eq))))))))))).symm
          rfl
        · refine Eq.trans ?_ (((up2_n (by decide)).trans ((up2_n (by decide)).trans ((up2_n (by decide)).trans ((up2_n (by decide)).trans ((up2_n (by decide)).trans ((up2_n (by decide)).trans ((up2_n (by decide)).trans ((up2_n (by decide)).trans up2_eq))))))))).symm
          rfl
        · refine Eq.trans ?_ (((up2_n (by decide)).trans ((up2_n (by decide)).trans ((up2_n (by decide)).trans ((up2_n (by decide)).trans ((up2_n (by decide)).trans ((up2_n (by decide)).trans up2_eq))))))).symm
          rfl
        · refine Eq.trans ?_ (up2_eq).symm
          rfl
        · refine Eq.trans ?_ (((up2_n (by decide)).trans ((up2_n (by decide)).trans up2_eq))).symm
          rfl
      · rw [if_neg h]
        have z24 : ¬ (f = 24 ∧ o = j) := fun z => h (by rw [z.1, z.2]; simp)
        have z6 : ¬ (f = 6 ∧ o = j) := fun z => h (by rw [z.1, z.2]; simp)
        have z25 : ¬ (f = 25 ∧ o = j) := fun z => h (by rw [z.1, z.2]; simp)
        have z26 : ¬ (f = 26 ∧ o = j) := fun z => h (by rw [z.1, z.2]; simp)
        have z27 : ¬ (f = 27 ∧ o = j) := fun z => h (by rw [z.1, z.2]; simp)
        have z28 : ¬ (f = 28 ∧ o = j) := fun z => h (by rw [z.1, z.2]; simp)
        exact ((up2_o z27).trans ((up2_o z6).trans ((up2_o z28).trans ((up2_o z6).trans ((up2_o z27).trans ((up2_o z6).trans ((up2_o z26).trans ((up2_o z6).trans ((up2_o z25).trans ((up2_o z6).trans ((up2_o z24).trans rfl))))))))))).symm
    | succ k ih =>
      intro i H locs ls hk hw hl
      have hi : i < 12 := by omega
      refine lv_iload_n hx hb dX1_init_46 rfl (lv_at hl 0 rfl) ?_
      refine lv_bipush (v := 12) hx hb dX1_init_47 (by decide) ?_
      refine lv_icmp_ge (tgt := 65) hx hb dX1_init_49 (by decide) (fun h => absurd h (nI_ge (b := 12) hi (by decide))) (fun _ => ?_)
      refine lv_aload_n hx hb dX1_init_52 rfl (lv_at hl 1 rfl) ?_
      refine k_get2 (C := RX1) (T := TX1) (N := 8) (v := .ref a27_4) hx hb hts inB_X1 hown hK hw ma0 ha0 ((up2_n (by decide)).trans hth) rfl 3 (by decide) (hts _ w_f_X1_21) (fun _ h9 => h9) rfl dX1_init_53 ?_
      refine lv_iload_n hx hb dX1_init_56 rfl (lv_at hl 0 rfl) ?_
      refine lv_iconst (v := (-1)) hx hb dX1_init_57 (by decide) ?_
      rw [← ha27_4]
      refine k_astn hx hb hK hw ma27_4 0 up2_eq rfl hi (by decide) (up2_up2.trans (by rw [row_s])) dX1_init_58 (fun H locs hw => ?_)
      refine lv_iinc (v := nI (i + 1)) (lv' := [(1, .int (nI (i + 1))), (0, .ref a0)]) hx hb dX1_init_59 hl (k := 0) rfl (nI_1 _) (by decide) rfl (fun ls hl => ?_)
      refine lv_goto (tgt := 46) hx hb dX1_init_62 (by decide) ?_
      exact ih (i + 1) _ _ _ (by omega) hw hl
  exact key 12 0 _ _ _ rfl (by rw [row_0, up2_same hbk]; exact hw) hl
