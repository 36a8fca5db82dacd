abbrev bw_X5_init : List Cond := .code yX5_init cX5_init 2 none :: BIG
abbrev rm_X5_init : Room := { frames := 2, cells := 70, slots := 807, locals := 35 }
set_option maxHeartbeats 4000000 in
set_option maxRecDepth 100000 in
theorem ct_X5_init {l : Launch} {D : va_G} {cI cG cJ cO : ClassId} {K0 : Nat → Nat} {A : Nat → Prop} {L : List (Nat × Nat)} {ad : Nat → Nat → Nat} {ce : Nat → Nat → va_E} {a0 : Nat} (ma0 : (0, 0) ∈ L) (ha0 : ad 0 0 = a0) (hc : ce 0 0 = .inr (5, [.null, .null, .null, .null, .null, .int 0, .int 0])) (hfr : ∀ f o, (f, o) ∈ L → f < 30 → f = 0) (sz : Nat) (hA : ∀ q, sz ≤ q → A q) : Met l yX5_init bw_X5_init rm_X5_init (kP D (ktys cI cG cJ cO) K0 A L ad ce sz [.ref a0]) (kQx D A L ad (LJ (L ++ [(1, 0)] ++ [(7, 0)] ++ [(8, 0)] ++ [(9, 0)] ++ [(10, 0)] ++ [(11, 0)] ++ [(12, 0)] ++ [(2, 0)] ++ [(13, 0)] ++ [(14, 0)] ++ [(15, 0)] ++ [(16, 0)] ++ [(3, 0)] ++ [(17, 0)] ++ [(18, 0)] ++ [(19, 0)] ++ [(20, 0)] ++ [(4, 0)] ++ [(21, 0)] ++ [(22, 0)] ++ [(23, 0)] ++ [(5, 0)]) 8) (fun u => cA cI cJ u ce)) 70 807 A := by
  refine Met.ofW (cc := cX5_init) (maxL := 2) (ret := none) (by decide) rfl ?_
  intro p e s m args below meth c s₁ B hml hv
  obtain ⟨hav, hsz, hP, hD, hK, hO⟩ := hv
  have hx := B.exec
  have hb := B.bytes
  have hr := B.returns
  have hts : ∀ w ∈ BIG, w.before args s = true := fun w h => atoms_spec (ws := bw_X5_init) B.pre w (List.mem_cons_of_mem _ h)
  have hown : s.vm.findClass RX5 = some m.cls := findClass_of_methodNamed B.named
  have hlocks := B.notSynchronized
  have hin : meth.name = "<init>" := (name_of_methodNamed B.named B.method).1
  subst hsz
  have hw := wk.start hP hD
  refine k_start (by rfl) hav (Nat.le_of_ble_eq_true rfl) (fun ls hl => ?_)
  have hl : lv_has ls 2 [(0, .ref a0)] := hl
  have hX : Ex L ad ad := fun _ _ _ => rfl
  have hs : ∀ i, i ∈ L → i ∈ L := fun _ h => h
  refine lv_aload_n hx hb dX5_init_0 rfl (lv_at hl 0 rfl) ?_
  refine W.objInit hx hb hown (hts _ w_oi_X5) (hts _ w_oi_im) (hts _ w_oi_co) rfl (by rw [hml]; exact hl.1) rfl dX5_init_1 (Nat.le_of_ble_eq_true rfl) (Nat.le_of_ble_eq_true rfl) ?_
  refine W.eq (g2 := F0 m 4 ls []) rfl ?_
  refine lv_aload_n hx hb dX5_init_4 rfl (lv_at hl 0 rfl) ?_
  refine k_new2 (C := RX2) (T := TX2) (N := 8) (ci := 2) (fs := [.null, .null, .null, .null, .null, .null, .int 0, .int 0]) hx hb hts inB_X2 tyX2 tyX2_ok hown (hts _ w_cl_X5_7) (hts _ w_is_X2) (hts _ w_in_X2) hK hw hA rfl (fun j hj => match j, hj with | 0, _ => rfl | 1, _ => rfl | 2, _ => rfl | 3, _ => rfl | 4, _ => rfl | 5, _ => rfl | 6, _ => rfl | 7, _ => rfl | n + 8, h => absurd h (by omega)) (Nat.le_of_ble_eq_true rfl) (Nat.le_of_ble_eq_true rfl) 1 0 (by intro z; (try simp at z); exact absurd (hfr _ _ z (by decide)) (by decide)) dX5_init_5 (fun u1 a1_1 H hE1 ha1_1 hw => ?_)
  have ha0 := (hE1 _ _ ma0).trans ha0
  have ma0 := List.mem_append_left [(1, 0)] ma0
  have hX := Ex.tr hX hE1 hs
  have hs := fun i h => List.mem_append_left [(1, 0)] (hs i h)
  have ma1_1 := List.mem_append_right L (List.mem_singleton_self (1, 0))
  refine lv_dup hx hb dX5_init_8 rfl ?_
  refine k_cvx hw (k_rIN (As := []) (rest := [.ref a1_1, .ref a0]) ⟨hx, hb, hml, hown, hts⟩ hK hO hw (ct_X2_init ma1_1 ha1_1 up2_eq (by intro z; (try simp at z); exact absurd (hfr _ _ z (by decide)) (by decide)) (by intro z; (try simp at z); exact absurd (hfr _ _ z (by decide)) (by decide)) (by intro z; (try simp at z); exact absurd (hfr _ _ z (by decide)) (by decide)) (by intro z; (try simp at z); exact absurd (hfr _ _ z (by decide)) (by decide)) (by intro z; (try simp at z); exact absurd (hfr _ _ z (by decide)) (by decide)) (by intro z; (try simp at z); exact absurd (hfr _ _ z (by decide)) (by decide))  _ (wk.hA hw hA)) (⟨va_cnB 0 hts (gB_0 w_co_X2_init) rfl rfl rfl (hO.2.2.1 _ w_mn_X5_9) (hts _ w_in_X2) (by decide +kernel) ⟨by decide, by decide⟩, rfl, hts _ w_im_X2_init⟩) rfl hl.1 rfl (Nat.le_of_ble_eq_true rfl) dX5_init_9 ⟨Nat.le_of_ble_eq_true rfl, Nat.le_of_ble_eq_true rfl⟩) (fun u2 H locs hE2 hw => ?_)
  have ha0 := (hE2 _ _ ma0).trans ha0
  have ha1_1 := (hE2 _ _ ma1_1).trans ha1_1
  have hX := Ex.tr hX hE2 hs
  have ma0 := List.mem_append_left [(7, 0)] ma0
  have ma1_1 := List.mem_append_left [(7, 0)] ma1_1
  have hs := fun i h => List.mem_append_left [(7, 0)] (hs i h)
  have ma0 := List.mem_append_left [(8, 0)] ma0
  have ma1_1 := List.mem_append_left [(8, 0)] ma1_1
  have hs := fun i h => List.mem_append_left [(8, 0)] (hs i h)
  have ma0 := List.mem_append_left [(9, 0)] ma0
  have ma1_1 := List.mem_append_left [(9, 0)] ma1_1
  have hs := fun i h => List.mem_append_left [(9, 0)] (hs i h)
  have ma0 := List.mem_append_left [(10, 0)] ma0
  have ma1_1 := List.mem_append_left [(10, 0)] ma1_1
  have hs := fun i h => List.mem_append_left [(10, 0)] (hs i h)
  have ma0 := List.mem_append_left [(11, 0)] ma0
  have ma1_1 := List.mem_append_left [(11, 0)] ma1_1
  have hs := fun i h => List.mem_append_left [(11, 0)] (hs i h)
  have ma0 := List.mem_append_left [(12, 0)] ma0
  have ma1_1 := List.mem_append_left [(12, 0)] ma1_1
  have hs := fun i h => List.mem_append_left [(12, 0)] (hs i h)
  have hw : wk D A (L ++ [(1, 0)] ++ [(7, 0)] ++ [(8, 0)] ++ [(9, 0)] ++ [(10, 0)] ++ [(11, 0)] ++ [(12, 0)]) u2 (cX cI cJ u2 (up2 ce 1 0 (.inr (2, [.null, .null, .null, .null, .null, .null, .int 0, .int 0]))) [(1, 0), (7, 0), (8, 0), (9, 0), (10, 0), (11, 0), (12, 0)]) s.heap H locs := hw
  obtain ⟨a7_2, ha7_2⟩ : ∃ a, u2 7 0 = a := ⟨_, rfl⟩
  have ma7_2 : (7, 0) ∈ L ++ [(1, 0)] ++ [(7, 0)] ++ [(8, 0)] ++ [(9, 0)] ++ [(10, 0)] ++ [(11, 0)] ++ [(12, 0)] := by simp
  obtain ⟨a8_2, ha8_2⟩ : ∃ a, u2 8 0 = a := ⟨_, rfl⟩
  have ma8_2 : (8, 0) ∈ L ++ [(1, 0)] ++ [(7, 0)] ++ [(8, 0)] ++ [(9, 0)] ++ [(10, 0)] ++ [(11, 0)] ++ [(12, 0)] := by simp
  obtain ⟨a9_2, ha9_2⟩ : ∃ a, u2 9 0 = a := ⟨_, rfl⟩
  have ma9_2 : (9, 0) ∈ L ++ [(1, 0)] ++ [(7, 0)] ++ [(8, 0)] ++ [(9, 0)] ++ [(10, 0)] ++ [(11, 0)] ++ [(12, 0)] := by simp
  obtain ⟨a10_2, ha10_2⟩ : ∃ a, u2 10 0 = a := ⟨_, rfl⟩
  have ma10_2 : (10, 0) ∈ L ++ [(1, 0)] ++ [(7, 0)] ++ [(8, 0)] ++ [(9, 0)] ++ [(10, 0)] ++ [(11, 0)] ++ [(12, 0)] := by simp
  obtain ⟨a11_2, ha11_2⟩ : ∃ a, u2 11 0 = a := ⟨_, rfl⟩
  have ma11_2 : (11, 0) ∈ L ++ [(1, 0)] ++ [(7, 0)] ++ [(8, 0)] ++ [(9, 0)] ++ [(10, 0)] ++ [(11, 0)] ++ [(12, 0)] := by simp
  obtain ⟨a12_2, ha12_2⟩ : ∃ a, u2 12 0 = a := ⟨_, rfl⟩
  have ma12_2 : (12, 0) ∈ L ++ [(1, 0)] ++ [(7, 0)] ++ [(8, 0)] ++ [(9, 0)] ++ [(10, 0)] ++ [(11, 0)] ++ [(12, 0)] := by simp
  have g_u2_0 := ha0
  have g_u2_1 := ha1_1
  have g_u2_7 := ha7_2
  have g_u2_8 := ha8_2
  have g_u2_9 := ha9_2
  have g_u2_10 := ha10_2
  have g_u2_11 := ha11_2
  have g_u2_12 := ha12_2
  refine k_putF2 (C := RX5) (T := TX5) (N := 7) (v := .ref a1_1) (ty := (.object "OnboardingWorks$Plan")) hx hb hts inB_X5 tyX5 tyX5_ok nmX5 hown hK hw ma0 ha0 ((cX_o (by simp)).trans ((up2_n (by decide)).trans hc)) rfl 0 (by decide) (hts _ w_f_X5_10) (fun _ h9 => h9) hin rfl rfl (by decide +kernel) rfl rfl (Nat.le_of_ble_eq_true rfl) dX5_init_12 (fun H locs hw => ?_)
  refine lv_aload_n hx hb dX5_init_15 rfl (lv_at hl 0 rfl) ?_
  refine k_new2 (C := RX3) (T := TX3) (N := 5) (ci := 3) (fs := [.null, .null, .null, .null, .int 0]) hx hb hts inB_X3 tyX3 tyX3_ok hown (hts _ w_cl_X5_16) (hts _ w_is_X3) (hts _ w_in_X3) hK hw hA rfl (fun j hj => match j, hj with | 0, _ => rfl | 1, _ => rfl | 2, _ => rfl | 3, _ => rfl | 4, _ => rfl | n + 5, h => absurd h (by omega)) (Nat.le_of_ble_eq_true rfl) (Nat.le_of_ble_eq_true rfl) 2 0 (by intro z; (try simp at z); exact absurd (hfr _ _ z (by decide)) (by decide)) dX5_init_16 (fun u3 a2_3 H hE3 ha2_3 hw => ?_)
  have ha0 := (hE3 _ _ ma0).trans ha0
  have ha1_1 := (hE3 _ _ ma1_1).trans ha1_1
  have ha7_2 := (hE3 _ _ ma7_2).trans ha7_2
  have ha8_2 := (hE3 _ _ ma8_2).trans ha8_2
  have ha9_2 := (hE3 _ _ ma9_2).trans ha9_2
  have ha10_2 := (hE3 _ _ ma10_2).trans ha10_2
  have ha11_2 := (hE3 _ _ ma11_2).trans ha11_2
  have ha12_2 := (hE3 _ _ ma12_2).trans ha12_2
  have ma0 := List.mem_append_left [(2, 0)] ma0
  have ma1_1 := List.mem_append_left [(2, 0)] ma1_1
  have ma7_2 := List.mem_append_left [(2, 0)] ma7_2
  have ma8_2 := List.mem_append_left [(2, 0)] ma8_2
  have ma9_2 := List.mem_append_left [(2, 0)] ma9_2
  have ma10_2 := List.mem_append_left [(2, 0)] ma10_2
  have ma11_2 := List.mem_append_left [(2, 0)] ma11_2
  have ma12_2 := List.mem_append_left [(2, 0)] ma12_2
  have hX := Ex.tr hX hE3 hs
  have hs := fun i h => List.mem_append_left [(2, 0)] (hs i h)
  have ma2_3 := List.mem_append_right (L ++ [(1, 0)] ++ [(7, 0)] ++ [(8, 0)] ++ [(9, 0)] ++ [(10, 0)] ++ [(11, 0)] ++ [(12, 0)]) (List.mem_singleton_self (2, 0))
  refine lv_dup hx hb dX5_init_19 rfl ?_
  refine k_cvx hw (k_rIN (As := []) (rest := [.ref a2_3, .ref a0]) ⟨hx, hb, hml, hown, hts⟩ hK hO hw (ct_X3_init ma2_3 ha2_3 up2_eq (by intro z; (try simp at z); exact absurd (hfr _ _ z (by decide)) (by decide)) (by intro z; (try simp at z); exact absurd (hfr _ _ z (by decide)) (by decide)) (by intro z; (try simp at z); exact absurd (hfr _ _ z (by decide)) (by decide)) (by intro z; (try simp at z); exact absurd (hfr _ _ z (by decide)) (by decide))  _ (wk.hA hw hA)) (⟨va_cnB 0 hts (gB_0 w_co_X3_init) rfl rfl rfl (hO.2.2.1 _ w_mn_X5_18) (hts _ w_in_X3) (by decide +kernel) ⟨by decide, by decide⟩, rfl, hts _ w_im_X3_init⟩) rfl hl.1 rfl (Nat.le_of_ble_eq_true rfl) dX5_init_20 ⟨Nat.le_of_ble_eq_true rfl, Nat.le_of_ble_eq_true rfl⟩) (fun u4 H locs hE4 hw => ?_)
  have ha0 := (hE4 _ _ ma0).trans ha0
  have ha1_1 := (hE4 _ _ ma1_1).trans ha1_1
  have ha7_2 := (hE4 _ _ ma7_2).trans ha7_2
  have ha8_2 := (hE4 _ _ ma8_2).trans ha8_2
  have ha9_2 := (hE4 _ _ ma9_2).trans ha9_2
  have ha10_2 := (hE4 _ _ ma10_2).trans ha10_2
  have ha11_2 := (hE4 _ _ ma11_2).trans ha11_2
  have ha12_2 := (hE4 _ _ ma12_2).trans ha12_2
  have ha2_3 := (hE4 _ _ ma2_3).trans ha2_3
  have hX := Ex.tr hX hE4 hs
  have ma0 := List.mem_append_left [(13, 0)] ma0
  have ma1_1 := List.mem_append_left [(13, 0)] ma1_1
  have ma7_2 := List.mem_append_left [(13, 0)] ma7_2
  have ma8_2 := List.mem_append_left [(13, 0)] ma8_2
  have ma9_2 := List.mem_append_left [(13, 0)] ma9_2
  have ma10_2 := List.mem_append_left [(13, 0)] ma10_2
  have ma11_2 := List.mem_append_left [(13, 0)] ma11_2
  have ma12_2 := List.mem_append_left [(13, 0)] ma12_2
  have ma2_3 := List.mem_append_left [(13, 0)] ma2_3
  have hs := fun i h => List.mem_append_left [(13, 0)] (hs i h)
  have ma0 := List.mem_append_left [(14, 0)] ma0
  have ma1_1 := List.mem_append_left [(14, 0)] ma1_1
  have ma7_2 := List.mem_append_left [(14, 0)] ma7_2
  have ma8_2 := List.mem_append_left [(14, 0)] ma8_2
  have ma9_2 := List.mem_append_left [(14, 0)] ma9_2
  have ma10_2 := List.mem_append_left [(14, 0)] ma10_2
  have ma11_2 := List.mem_append_left [(14, 0)] ma11_2
  have ma12_2 := List.mem_append_left [(14, 0)] ma12_2
  have ma2_3 := List.mem_append_left [(14, 0)] ma2_3
  have hs := fun i h => List.mem_append_left [(14, 0)] (hs i h)
  have ma0 := List.mem_append_left [(15, 0)] ma0
  have ma1_1 := List.mem_append_left [(15, 0)] ma1_1
  have ma7_2 := List.mem_append_left [(15, 0)] ma7_2
  have ma8_2 := List.mem_append_left [(15, 0)] ma8_2
  have ma9_2 := List.mem_append_left [(15, 0)] ma9_2
  have ma10_2 := List.mem_append_left [(15, 0)] ma10_2
  have ma11_2 := List.mem_append_left [(15, 0)] ma11_2
  have ma12_2 := List.mem_append_left [(15, 0)] ma12_2
  have ma2_3 := List.mem_append_left [(15, 0)] ma2_3
  have hs := fun i h => List.mem_append_left [(15, 0)] (hs i h)
  have ma0 := List.mem_append_left [(16, 0)] ma0
  have ma1_1 := List.mem_append_left [(16, 0)] ma1_1
  have ma7_2 := List.mem_append_left [(16, 0)] ma7_2
  have ma8_2 := List.mem_append_left [(16, 0)] ma8_2
  have ma9_2 := List.mem_append_left [(16, 0)] ma9_2
  have ma10_2 := List.mem_append_left [(16, 0)] ma10_2
  have ma11_2 := List.mem_append_left [(16, 0)] ma11_2
  have ma12_2 := List.mem_append_left [(16, 0)] ma12_2
  have ma2_3 := List.mem_append_left [(16, 0)] ma2_3
  have hs := fun i h => List.mem_append_left [(16, 0)] (hs i h)
  have hw : wk D A (L ++ [(1, 0)] ++ [(7, 0)] ++ [(8, 0)] ++ [(9, 0)] ++ [(10, 0)] ++ [(11, 0)] ++ [(12, 0)] ++ [(2, 0)] ++ [(13, 0)] ++ [(14, 0)] ++ [(15, 0)] ++ [(16, 0)]) u4 (cX cI cJ u4 (up2 (up2 (cX cI cJ u2 (up2 ce 1 0 (.inr (2, [.null, .null, .null, .null, .null, .null, .int 0, .int 0]))) [(1, 0), (7, 0), (8, 0), (9, 0), (10, 0), (11, 0), (12, 0)]) 0 0 (.inr (5, [.ref a1_1, .null, .null, .null, .null, .int 0, .int 0]))) 2 0 (.inr (3, [.null, .null, .null, .null, .int 0]))) [(2, 0), (13, 0), (14, 0), (15, 0), (16, 0)]) s.heap H locs := hw
  obtain ⟨a13_4, ha13_4⟩ : ∃ a, u4 13 0 = a := ⟨_, rfl⟩
  have ma13_4 : (13, 0) ∈ L ++ [(1, 0)] ++ [(7, 0)] ++ [(8, 0)] ++ [(9, 0)] ++ [(10, 0)] ++ [(11, 0)] ++ [(12, 0)] ++ [(2, 0)] ++ [(13, 0)] ++ [(14, 0)] ++ [(15, 0)] ++ [(16, 0)] := by simp
  obtain ⟨a14_4, ha14_4⟩ : ∃ a, u4 14 0 = a := ⟨_, rfl⟩
  have ma14_4 : (14, 0) ∈ L ++ [(1, 0)] ++ [(7, 0)] ++ [(8, 0)] ++ [(9, 0)] ++ [(10, 0)] ++ [(11, 0)] ++ [(12, 0)] ++ [(2, 0)] ++ [(13, 0)] ++ [(14, 0)] ++ [(15, 0)] ++ [(16, 0)] := by simp
  obtain ⟨a15_4, ha15_4⟩ : ∃ a, u4 15 0 = a := ⟨_, rfl⟩
  have ma15_4 : (15, 0) ∈ L ++ [(1, 0)] ++ [(7, 0)] ++ [(8, 0)] ++ [(9, 0)] ++ [(10, 0)] ++ [(11, 0)] ++ [(12, 0)] ++ [(2, 0)] ++ [(13, 0)] ++ [(14, 0)] ++ [(15, 0)] ++ [(16, 0)] := by simp
  obtain ⟨a16_4, ha16_4⟩ : ∃ a, u4 16 0 = a := ⟨_, rfl⟩
  have ma16_4 : (16, 0) ∈ L ++ [(1, 0)] ++ [(7, 0)] ++ [(8, 0)] ++ [(9, 0)] ++ [(10, 0)] ++ [(11, 0)] ++ [(12, 0)] ++ [(2, 0)] ++ [(13, 0)] ++ [(14, 0)] ++ [(15, 0)] ++ [(16, 0)] := by simp
  have g_u4_0 := ha0
  have g_u4_1 := ha1_1
  have g_u4_7 := ha7_2
  have g_u4_8 := ha8_2
  have g_u4_9 := ha9_2
  have g_u4_10 := ha10_2
  have g_u4_11 := ha11_2
  have g_u4_12 := ha12_2
  have g_u4_2 := ha2_3
  have g_u4_13 := ha13_4
  have g_u4_14 := ha14_4
  have g_u4_15 := ha15_4
  have g_u4_16 := ha16_4
  refine k_putF2 (C := RX5) (T := TX5) (N := 7) (v := .ref a2_3) (ty := (.object "OnboardingWorks$Storeroom")) hx hb hts inB_X5 tyX5 tyX5_ok nmX5 hown hK hw ma0 ha0 ((cX_o (by simp)).trans ((up2_n (by decide)).trans up2_eq)) rfl 1 (by decide) (hts _ w_f_X5_19) (fun _ h9 => h9) hin rfl rfl (by decide +kernel) rfl rfl (Nat.le_of_ble_eq_true rfl) dX5_init_23 (fun H locs hw => ?_)
  refine lv_aload_n hx hb dX5_init_26 rfl (lv_at hl 0 rfl) ?_
  refine k_new2 (C := RX4) (T := TX4) (N := 5) (ci := 4) (fs := [.null, .null, .null, .null, .int 0]) hx hb hts inB_X4 tyX4 tyX4_ok hown (hts _ w_cl_X5_23) (hts _ w_is_X4) (hts _ w_in_X4) hK hw hA rfl (fun j hj => match j, hj with | 0, _ => rfl | 1, _ => rfl | 2, _ => rfl | 3, _ => rfl | 4, _ => rfl | n + 5, h => absurd h (by omega)) (Nat.le_of_ble_eq_true rfl) (Nat.le_of_ble_eq_true rfl) 3 0 (by intro z; (try simp at z); exact absurd (hfr _ _ z (by decide)) (by decide)) dX5_init_27 (fun u5 a3_5 H hE5 ha3_5 hw => ?_)
  have ha0 := (hE5 _ _ ma0).trans ha0
  have ha1_1 := (hE5 _ _ ma1_1).trans ha1_1
  have ha7_2 := (hE5 _ _ ma7_2).trans ha7_2
  have ha8_2 := (hE5 _ _ ma8_2).trans ha8_2
  have ha9_2 := (hE5 _ _ ma9_2).trans ha9_2
  have ha10_2 := (hE5 _ _ ma10_2).trans ha10_2
  have ha11_2 := (hE5 _ _ ma11_2).trans ha11_2
  have ha12_2 := (hE5 _ _ ma12_2).trans ha12_2
  have ha2_3 := (hE5 _ _ ma2_3).trans ha2_3
  have ha13_4 := (hE5 _ _ ma13_4).trans ha13_4
  have ha14_4 := (hE5 _ _ ma14_4).trans ha14_4
  have ha15_4 := (hE5 _ _ ma15_4).trans ha15_4
  have ha16_4 := (hE5 _ _ ma16_4).trans ha16_4
  have ma0 := List.mem_append_left [(3, 0)] ma0
  have ma1_1 := List.mem_append_left [(3, 0)] ma1_1
  have ma7_2 := List.mem_append_left [(3, 0)] ma7_2
  have ma8_2 := List.mem_append_left [(3, 0)] ma8_2
  have ma9_2 := List.mem_append_left [(3, 0)] ma9_2
  have ma10_2 := List.mem_append_left [(3, 0)] ma10_2
  have ma11_2 := List.mem_append_left [(3, 0)] ma11_2
  have ma12_2 := List.mem_append_left [(3, 0)] ma12_2
  have ma2_3 := List.mem_append_left [(3, 0)] ma2_3
  have ma13_4 := List.mem_append_left [(3, 0)] ma13_4
  have ma14_4 := List.mem_append_left [(3, 0)] ma14_4
  have ma15_4 := List.mem_append_left [(3, 0)] ma15_4
  have ma16_4 := List.mem_append_left [(3, 0)] ma16_4
  have hX := Ex.tr hX hE5 hs
  have hs := fun i h => List.mem_append_left [(3, 0)] (hs i h)
  have ma3_5 := List.mem_append_right (L ++ [(1, 0)] ++ [(7, 0)] ++ [(8, 0)] ++ [(9, 0)] ++ [(10, 0)] ++ [(11, 0)] ++ [(12, 0)] ++ [(2, 0)] ++ [(13, 0)] ++ [(14, 0)] ++ [(15, 0)] ++ [(16, 0)]) (List.mem_singleton_self (3, 0))
  refine lv_dup hx hb dX5_init_30 rfl ?_
  refine k_cvx hw (k_rIN (As := []) (rest := [.ref a3_5, .ref a0]) ⟨hx, hb, hml, hown, hts⟩ hK hO hw (ct_X4_init ma3_5 ha3_5 up2_eq (by intro z; (try simp at z); exact absurd (hfr _ _ z (by decide)) (by decide)) (by intro z; (try simp at z); exact absurd (hfr _ _ z (by decide)) (by decide)) (by intro z; (try simp at z); exact absurd (hfr _ _ z (by decide)) (by decide)) (by intro z; (try simp at z); exact absurd (hfr _ _ z (by decide)) (by decide))  _ (wk.hA hw hA)) (⟨va_cnB 0 hts (gB_0 w_co_X4_init) rfl rfl rfl (hO.2.2.1 _ w_mn_X5_25) (hts _ w_in_X4) (by decide +kernel) ⟨by decide, by decide⟩, rfl, hts _ w_im_X4_init⟩) rfl hl.1 rfl (Nat.le_of_ble_eq_true rfl) dX5_init_31 ⟨Nat.le_of_ble_eq_true rfl, Nat.le_of_ble_eq_true rfl⟩) (fun u6 H locs hE6 hw => ?_)
  have ha0 := (hE6 _ _ ma0).trans ha0
  have ha1_1 := (hE6 _ _ ma1_1).trans ha1_1
  have ha7_2 := (hE6 _ _ ma7_2).trans ha7_2
  have ha8_2 := (hE6 _ _ ma8_2).trans ha8_2
  have ha9_2 := (hE6 _ _ ma9_2).trans ha9_2
  have ha10_2 := (hE6 _ _ ma10_2).trans ha10_2
  have ha11_2 := (hE6 _ _ ma11_2).trans ha11_2
  have ha12_2 := (hE6 _ _ ma12_2).trans ha12_2
  have ha2_3 := (hE6 _ _ ma2_3).trans ha2_3
  have ha13_4 := (hE6 _ _ ma13_4).trans ha13_4
  have ha14_4 := (hE6 _ _ ma14_4).trans ha14_4
  have ha15_4 := (hE6 _ _ ma15_4).trans ha15_4
  have ha16_4 := (hE6 _ _ ma16_4).trans ha16_4
  have ha3_5 := (hE6 _ _ ma3_5).trans ha3_5
  have hX := Ex.tr hX hE6 hs
  have ma0 := List.mem_append_left [(17, 0)] ma0
  have ma1_1 := List.mem_append_left [(17, 0)] ma1_1
  have ma7_2 := List.mem_append_left [(17, 0)] ma7_2
  have ma8_2 := List.mem_append_left [(17, 0)] ma8_2
  have ma9_2 := List.mem_append_left [(17, 0)] ma9_2
  have ma10_2 := List.mem_append_left [(17, 0)] ma10_2
  have ma11_2 := List.mem_append_left [(17, 0)] ma11_2
  have ma12_2 := List.mem_append_left [(17, 0)] ma12_2
  have ma2_3 := List.mem_append_left [(17, 0)] ma2_3
  have ma13_4 := List.mem_append_left [(17, 0)] ma13_4
  have ma14_4 := List.mem_append_left [(17, 0)] ma14_4
  have ma15_4 := List.mem_append_left [(17, 0)] ma15_4
  have ma16_4 := List.mem_append_left [(17, 0)] ma16_4
  have ma3_5 := List.mem_append_left [(17, 0)] ma3_5
  have hs := fun i h => List.mem_append_left [(17, 0)] (hs i h)
  have ma0 := List.mem_append_left [(18, 0)] ma0
  have ma1_1 := List.mem_append_left [(18, 0)] ma1_1
  have ma7_2 := List.mem_append_left [(18, 0)] ma7_2
  have ma8_2 := List.mem_append_left [(18, 0)] ma8_2
  have ma9_2 := List.mem_append_left [(18, 0)] ma9_2
  have ma10_2 := List.mem_append_left [(18, 0)] ma10_2
  have ma11_2 := List.mem_append_left [(18, 0)] ma11_2
  have ma12_2 := List.mem_append_left [(18, 0)] ma12_2
  have ma2_3 := List.mem_append_left [(18, 0)] ma2_3
  have ma13_4 := List.mem_append_left [(18, 0)] ma13_4
  have ma14_4 := List.mem_append_left [(18, 0)] ma14_4
  have ma15_4 := List.mem_append_left [(18, 0)] ma15_4
  have ma16_4 := List.mem_append_left [(18, 0)] ma16_4
  have ma3_5 := List.mem_append_left [(18, 0)] ma3_5
  have hs := fun i h => List.mem_append_left [(18, 0)] (hs i h)
  have ma0 := List.mem_append_left [(19, 0)] ma0
  have ma1_1 := List.mem_append_left [(19, 0)] ma1_1
  have ma7_2 := List.mem_append_left [(19, 0)] ma7_2
  have ma8_2 := List.mem_append_left [(19, 0)] ma8_2
  have ma9_2 := List.mem_append_left [(19, 0)] ma9_2
  have ma10_2 := List.mem_append_left [(19, 0)] ma10_2
  have ma11_2 := List.mem_append_left [(19, 0)] ma11_2
  have ma12_2 := List.mem_append_left [(19, 0)] ma12_2
  have ma2_3 := List.mem_append_left [(19, 0)] ma2_3
  have ma13_4 := List.mem_append_left [(19, 0)] ma13_4
  have ma14_4 := List.mem_append_left [(19, 0)] ma14_4
  have ma15_4 := List.mem_append_left [(19, 0)] ma15_4
  have ma16_4 := List.mem_append_left [(19, 0)] ma16_4
  have ma3_5 := List.mem_append_left [(19, 0)] ma3_5
  have hs := fun i h => List.mem_append_left [(19, 0)] (hs i h)
  have ma0 := List.mem_append_left [(20, 0)] ma0
  have ma1_1 := List.mem_append_left [(20, 0)] ma1_1
  have ma7_2 := List.mem_append_left [(20, 0)] ma7_2
  have ma8_2 := List.mem_append_left [(20, 0)] ma8_2
  have ma9_2 := List.mem_append_left [(20, 0)] ma9_2
  have ma10_2 := List.mem_append_left [(20, 0)] ma10_2
  have ma11_2 := List.mem_append_left [(20, 0)] ma11_2
  have ma12_2 := List.mem_append_left [(20, 0)] ma12_2
  have ma2_3 := List.mem_append_left [(20, 0)] ma2_3
  have ma13_4 := List.mem_append_left [(20, 0)] ma13_4
  have ma14_4 := List.mem_append_left [(20, 0)] ma14_4
  have ma15_4 := List.mem_append_left [(20, 0)] ma15_4
  have ma16_4 := List.mem_append_left [(20, 0)] ma16_4
  have ma3_5 := List.mem_append_left [(20, 0)] ma3_5
  have hs := fun i h => List.mem_append_left [(20, 0)] (hs i h)
  have hw : wk D A (L ++ [(1, 0)] ++ [(7, 0)] ++ [(8, 0)] ++ [(9, 0)] ++ [(10, 0)] ++ [(11, 0)] ++ [(12, 0)] ++ [(2, 0)] ++ [(13, 0)] ++ [(14, 0)] ++ [(15, 0)] ++ [(16, 0)] ++ [(3, 0)] ++ [(17, 0)] ++ [(18, 0)] ++ [(19, 0)] ++ [(20, 0)]) u6 (cX cI cJ u6 (up2 (up2 (cX cI cJ u4 (up2 (up2 (cX cI cJ u2 (up2 ce 1 0 (.inr (2, [.null, .null, .null, .null, .null, .null, .int 0, .int 0]))) [(1, 0), (7, 0), (8, 0), (9, 0), (10, 0), (11, 0), (12, 0)]) 0 0 (.inr (5, [.ref a1_1, .null, .null, .null, .null, .int 0, .int 0]))) 2 0 (.inr (3, [.null, .null, .null, .null, .int 0]))) [(2, 0), (13, 0), (14, 0), (15, 0), (16, 0)]) 0 0 (.inr (5, [.ref a1_1, .ref a2_3, .null, .null, .null, .int 0, .int 0]))) 3 0 (.inr (4, [.null, .null, .null, .null, .int 0]))) [(3, 0), (17, 0), (18, 0), (19, 0), (20, 0)]) s.heap H locs := hw
  obtain ⟨a17_6, ha17_6⟩ : ∃ a, u6 17 0 = a := ⟨_, rfl⟩
  have ma17_6 : (17, 0) ∈ L ++ [(1, 0)] ++ [(7, 0)] ++ [(8, 0)] ++ [(9, 0)] ++ [(10, 0)] ++ [(11, 0)] ++ [(12, 0)] ++ [(2, 0)] ++ [(13, 0)] ++ [(14, 0)] ++ [(15, 0)] ++ [(16, 0)] ++ [(3, 0)] ++ [(17, 0)] ++ [(18, 0)] ++ [(19, 0)] ++ [(20, 0)] := by simp
  obtain ⟨a18_6, ha18_6⟩ : ∃ a, u6 18 0 = a := ⟨_, rfl⟩
  have ma18_6 : (18, 0) ∈ L ++ [(1, 0)] ++ [(7, 0)] ++ [(8, 0)] ++ [(9, 0)] ++ [(10, 0)] ++ [(11, 0)] ++ [(12, 0)] ++ [(2, 0)] ++ [(13, 0)] ++ [(14, 0)] ++ [(15, 0)] ++ [(16, 0)] ++ [(3, 0)] ++ [(17, 0)] ++ [(18, 0)] ++ [(19, 0)] ++ [(20, 0)] := by simp
  obtain ⟨a19_6, ha19_6⟩ : ∃ a, u6 19 0 = a := ⟨_, rfl⟩
  have ma19_6 : (19, 0) ∈ L ++ [(1, 0)] ++ [(7, 0)] ++ [(8, 0)] ++ [(9, 0)] ++ [(10, 0)] ++ [(11, 0)] ++ [(12, 0)] ++ [(2, 0)] ++ [(13, 0)] ++ [(14, 0)] ++ [(15, 0)] ++ [(16, 0)] ++ [(3, 0)] ++ [(17, 0)] ++ [(18, 0)] ++ [(19, 0)] ++ [(20, 0)] := by simp
  obtain ⟨a20_6, ha20_6⟩ : ∃ a, u6 20 0 = a := ⟨_, rfl⟩
  have ma20_6 : (20, 0) ∈ L ++ [(1, 0)] ++ [(7, 0)] ++ [(8, 0)] ++ [(9, 0)] ++ [(10, 0)] ++ [(11, 0)] ++ [(12, 0)] ++ [(2, 0)] ++ [(13, 0)] ++ [(14, 0)] ++ [(15, 0)] ++ [(16, 0)] ++ [(3, 0)] ++ [(17, 0)] ++ [(18, 0)] ++ [(19, 0)] ++ [(20, 0)] := by simp
  have g_u6_0 := ha0
  have g_u6_1 := ha1_1
  have g_u6_7 := ha7_2
  have g_u6_8 := ha8_2
  have g_u6_9 := ha9_2
  have g_u6_10 := ha10_2
  have g_u6_11 := ha11_2
  have g_u6_12 := ha12_2
  have g_u6_2 := ha2_3
  have g_u6_13 := ha13_4
  have g_u6_14 := ha14_4
  have g_u6_15 := ha15_4
  have g_u6_16 := ha16_4
  have g_u6_3 := ha3_5
  have g_u6_17 := ha17_6
  have g_u6_18 := ha18_6
  have g_u6_19 := ha19_6
  have g_u6_20 := ha20_6
  refine k_putF2 (C := RX5) (T := TX5) (N := 7) (v := .ref a3_5) (ty := (.object "OnboardingWorks$Timetable")) hx hb hts inB_X5 tyX5 tyX5_ok nmX5 hown hK hw ma0 ha0 ((cX_o (by simp)).trans ((up2_n (by decide)).trans up2_eq)) rfl 2 (by decide) (hts _ w_f_X5_26) (fun _ h9 => h9) hin rfl rfl (by decide +kernel) rfl rfl (Nat.le_of_ble_eq_true rfl) dX5_init_34 (fun H locs hw => ?_)
  refine lv_aload_n hx hb dX5_init_37 rfl (lv_at hl 0 rfl) ?_
  refine k_new2 (C := RX0) (T := TX0) (N := 7) (ci := 0) (fs := [.null, .null, .null, .null, .null, .null, .int 0]) hx hb hts inB_X0 tyX0 tyX0_ok hown (hts _ w_cl_X5_30) (hts _ w_is_X0) (hts _ w_in_X0) hK hw hA rfl (fun j hj => match j, hj with | 0, _ => rfl | 1, _ => rfl | 2, _ => rfl | 3, _ => rfl | 4, _ => rfl | 5, _ => rfl | 6, _ => rfl | n + 7, h => absurd h (by omega)) (Nat.le_of_ble_eq_true rfl) (Nat.le_of_ble_eq_true rfl) 4 0 (by intro z; (try simp at z); exact absurd (hfr _ _ z (by decide)) (by decide)) dX5_init_38 (fun u7 a4_7 H hE7 ha4_7 hw => ?_)
  have ha0 := (hE7 _ _ ma0).trans ha0
  have ha1_1 := (hE7 _ _ ma1_1).trans ha1_1
  have ha7_2 := (hE7 _ _ ma7_2).trans ha7_2
  have ha8_2 := (hE7 _ _ ma8_2).trans ha8_2
  have ha9_2 := (hE7 _ _ ma9_2).trans ha9_2
  have ha10_2 := (hE7 _ _ ma10_2).trans ha10_2
  have ha11_2 := (hE7 _ _ ma11_2).trans ha11_2
  have ha12_2 := (hE7 _ _ ma12_2).trans ha12_2
  have ha2_3 := (hE7 _ _ ma2_3).trans ha2_3
  have ha13_4 := (hE7 _ _ ma13_4).trans ha13_4
  have ha14_4 := (hE7 _ _ ma14_4).trans ha14_4
  have ha15_4 := (hE7 _ _ ma15_4).trans ha15_4
  have ha16_4 := (hE7 _ _ ma16_4).trans ha16_4
  have ha3_5 := (hE7 _ _ ma3_5).trans ha3_5
  have ha17_6 := (hE7 _ _ ma17_6).trans ha17_6
  have ha18_6 := (hE7 _ _ ma18_6).trans ha18_6
  have ha19_6 := (hE7 _ _ ma19_6).trans ha19_6
  have ha20_6 := (hE7 _ _ ma20_6).trans ha20_6
  have ma0 := List.mem_append_left [(4, 0)] ma0
  have ma1_1 := List.mem_append_left [(4, 0)] ma1_1
  have ma7_2 := List.mem_append_left [(4, 0)] ma7_2
  have ma8_2 := List.mem_append_left [(4, 0)] ma8_2
  have ma9_2 := List.mem_append_left [(4, 0)] ma9_2
  have ma10_2 := List.mem_append_left [(4, 0)] ma10_2
  have ma11_2 := List.mem_append_left [(4, 0)] ma11_2
  have ma12_2 := List.mem_append_left [(4, 0)] ma12_2
  have ma2_3 := List.mem_append_left [(4, 0)] ma2_3
  have ma13_4 := List.mem_append_left [(4, 0)] ma13_4
  have ma14_4 := List.mem_append_left [(4, 0)] ma14_4
  have ma15_4 := List.mem_append_left [(4, 0)] ma15_4
  have ma16_4 := List.mem_append_left [(4, 0)] ma16_4
  have ma3_5 := List.mem_append_left [(4, 0)] ma3_5
  have ma17_6 := List.mem_append_left [(4, 0)] ma17_6
  have ma18_6 := List.mem_append_left [(4, 0)] ma18_6
  have ma19_6 := List.mem_append_left [(4, 0)] ma19_6
  have ma20_6 := List.mem_append_left [(4, 0)] ma20_6
  have hX := Ex.tr hX hE7 hs
  have hs := fun i h => List.mem_append_left [(4, 0)] (hs i h)
  have ma4_7 := List.mem_append_right (L ++ [(1, 0)] ++ [(7, 0)] ++ [(8, 0)] ++ [(9, 0)] ++ [(10, 0)] ++ [(11, 0)] ++ [(12, 0)] ++ [(2, 0)] ++ [(13, 0)] ++ [(14, 0)] ++ [(15, 0)] ++ [(16, 0)] ++ [(3, 0)] ++ [(17, 0)] ++ [(18, 0)] ++ [(19, 0)] ++ [(20, 0)]) (List.mem_singleton_self (4, 0))
  refine lv_dup hx hb dX5_init_41 rfl ?_
  refine lv_aload_n hx hb dX5_init_42 rfl (lv_at hl 0 rfl) ?_
  refine k_get2 (C := RX5) (T := TX5) (N := 7) (v := .ref a1_1) hx hb hts inB_X5 hown hK hw ma0 ha0 ((up2_n (by decide)).trans up2_eq) rfl 0 (by decide) (hts _ w_f_X5_10) (fun _ h9 => h9) rfl dX5_init_43 ?_
  refine lv_aload_n hx hb dX5_init_46 rfl (lv_at hl 0 rfl) ?_
  refine k_get2 (C := RX5) (T := TX5) (N := 7) (v := .ref a2_3) hx hb hts inB_X5 hown hK hw ma0 ha0 ((up2_n (by decide)).trans up2_eq) rfl 1 (by decide) (hts _ w_f_X5_19) (fun _ h9 => h9) rfl dX5_init_47 ?_
  refine lv_aload_n hx hb dX5_init_50 rfl (lv_at hl 0 rfl) ?_
  refine k_get2 (C := RX5) (T := TX5) (N := 7) (v := .ref a3_5) hx hb hts inB_X5 hown hK hw ma0 ha0 ((up2_n (by decide)).trans up2_eq) rfl 2 (by decide) (hts _ w_f_X5_26) (fun _ h9 => h9) rfl dX5_init_51 ?_
  refine k_cvx hw (k_rI (As := [.ref a1_1, .ref a2_3, .ref a3_5]) (rest := [.ref a4_7, .ref a0]) ⟨hx, hb, hml, hown, hts⟩ hK hO hw (ct_X0_init ma4_7 ha4_7 up2_eq (by intro z; (try simp at z); exact absurd (hfr _ _ z (by decide)) (by decide)) (by intro z; (try simp at z); exact absurd (hfr _ _ z (by decide)) (by decide)) (by intro z; (try simp at z); exact absurd (hfr _ _ z (by decide)) (by decide)) ma1_1 ha1_1 ma2_3 ha2_3 ma3_5 ha3_5 _ (wk.hA hw hA)) (cwI 3 hts (gB_0 w_co_X0_init) rfl rfl rfl (hts _ w_in_X0) (hts _ w_ml_X5_32) (hts _ w_im_X0_init) rfl (by decide +kernel) ⟨by decide, by decide⟩) rfl hl.1 rfl (Nat.le_of_ble_eq_true rfl) dX5_init_54 ⟨Nat.le_of_ble_eq_true rfl, Nat.le_of_ble_eq_true rfl⟩) (fun u8 H locs hE8 hw => ?_)
  have ha0 := (hE8 _ _ ma0).trans ha0
  have ha1_1 := (hE8 _ _ ma1_1).trans ha1_1
  have ha7_2 := (hE8 _ _ ma7_2).trans ha7_2
  have ha8_2 := (hE8 _ _ ma8_2).trans ha8_2
  have ha9_2 := (hE8 _ _ ma9_2).trans ha9_2
  have ha10_2 := (hE8 _ _ ma10_2).trans ha10_2
  have ha11_2 := (hE8 _ _ ma11_2).trans ha11_2
  have ha12_2 := (hE8 _ _ ma12_2).trans ha12_2
  have ha2_3 := (hE8 _ _ ma2_3).trans ha2_3
  have ha13_4 := (hE8 _ _ ma13_4).trans ha13_4
  have ha14_4 := (hE8 _ _ ma14_4).trans ha14_4
  have ha15_4 := (hE8 _ _ ma15_4).trans ha15_4
  have ha16_4 := (hE8 _ _ ma16_4).trans ha16_4
  have ha3_5 := (hE8 _ _ ma3_5).trans ha3_5
  have ha17_6 := (hE8 _ _ ma17_6).trans ha17_6
  have ha18_6 := (hE8 _ _ ma18_6).trans ha18_6
  have ha19_6 := (hE8 _ _ ma19_6).trans ha19_6
  have ha20_6 := (hE8 _ _ ma20_6).trans ha20_6
  have ha4_7 := (hE8 _ _ ma4_7).trans ha4_7
  have hX := Ex.tr hX hE8 hs
  have ma0 := List.mem_append_left [(21, 0)] ma0
  have ma1_1 := List.mem_append_left [(21, 0)] ma1_1
  have ma7_2 := List.mem_append_left [(21, 0)] ma7_2
  have ma8_2 := List.mem_append_left [(21, 0)] ma8_2
  have ma9_2 := List.mem_append_left [(21, 0)] ma9_2
  have ma10_2 := List.mem_append_left [(21, 0)] ma10_2
  have ma11_2 := List.mem_append_left [(21, 0)] ma11_2
  have ma12_2 := List.mem_append_left [(21, 0)] ma12_2
  have ma2_3 := List.mem_append_left [(21, 0)] ma2_3
  have ma13_4 := List.mem_append_left [(21, 0)] ma13_4
  have ma14_4 := List.mem_append_left [(21, 0)] ma14_4
  have ma15_4 := List.mem_append_left [(21, 0)] ma15_4
  have ma16_4 := List.mem_append_left [(21, 0)] ma16_4
  have ma3_5 := List.mem_append_left [(21, 0)] ma3_5
  have ma17_6 := List.mem_append_left [(21, 0)] ma17_6
  have ma18_6 := List.mem_append_left [(21, 0)] ma18_6
  have ma19_6 := List.mem_append_left [(21, 0)] ma19_6
  have ma20_6 := List.mem_append_left [(21, 0)] ma20_6
  have ma4_7 := List.mem_append_left [(21, 0)] ma4_7
  have hs := fun i h => List.mem_append_left [(21, 0)] (hs i h)
  have ma0 := List.mem_append_left [(22, 0)] ma0
  have ma1_1 := List.mem_append_left [(22, 0)] ma1_1
  have ma7_2 := List.mem_append_left [(22, 0)] ma7_2
  have ma8_2 := List.mem_append_left [(22, 0)] ma8_2
  have ma9_2 := List.mem_append_left [(22, 0)] ma9_2
  have ma10_2 := List.mem_append_left [(22, 0)] ma10_2
  have ma11_2 := List.mem_append_left [(22, 0)] ma11_2
  have ma12_2 := List.mem_append_left [(22, 0)] ma12_2
  have ma2_3 := List.mem_append_left [(22, 0)] ma2_3
  have ma13_4 := List.mem_append_left [(22, 0)] ma13_4
  have ma14_4 := List.mem_append_left [(22, 0)] ma14_4
  have ma15_4 := List.mem_append_left [(22, 0)] ma15_4
  have ma16_4 := List.mem_append_left [(22, 0)] ma16_4
  have ma3_5 := List.mem_append_left [(22, 0)] ma3_5
  have ma17_6 := List.mem_append_left [(22, 0)] ma17_6
  have ma18_6 := List.mem_append_left [(22, 0)] ma18_6
  have ma19_6 := List.mem_append_left [(22, 0)] ma19_6
  have ma20_6 := List.mem_append_left [(22, 0)] ma20_6
  have ma4_7 := List.mem_append_left [(22, 0)] ma4_7
  have hs := fun i h => List.mem_append_left [(22, 0)] (hs i h)
  have ma0 := List.mem_append_left [(23, 0)] ma0
  have ma1_1 := List.mem_append_left [(23, 0)] ma1_1
  have ma7_2 := List.mem_append_left [(23, 0)] ma7_2
  have ma8_2 := List.mem_append_left [(23, 0)] ma8_2
  have ma9_2 := List.mem_append_left [(23, 0)] ma9_2
  have ma10_2 := List.mem_append_left [(23, 0)] ma10_2
  have ma11_2 := List.mem_append_left [(23, 0)] ma11_2
  have ma12_2 := List.mem_append_left [(23, 0)] ma12_2
  have ma2_3 := List.mem_append_left [(23, 0)] ma2_3
  have ma13_4 := List.mem_append_left [(23, 0)] ma13_4
  have ma14_4 := List.mem_append_left [(23, 0)] ma14_4
  have ma15_4 := List.mem_append_left [(23, 0)] ma15_4
  have ma16_4 := List.mem_append_left [(23, 0)] ma16_4
  have ma3_5 := List.mem_append_left [(23, 0)] ma3_5
  have ma17_6 := List.mem_append_left [(23, 0)] ma17_6
  have ma18_6 := List.mem_append_left [(23, 0)] ma18_6
  have ma19_6 := List.mem_append_left [(23, 0)] ma19_6
  have ma20_6 := List.mem_append_left [(23, 0)] ma20_6
  have ma4_7 := List.mem_append_left [(23, 0)] ma4_7
  have hs := fun i h => List.mem_append_left [(23, 0)] (hs i h)
  have hw : wk D A (L ++ [(1, 0)] ++ [(7, 0)] ++ [(8, 0)] ++ [(9, 0)] ++ [(10, 0)] ++ [(11, 0)] ++ [(12, 0)] ++ [(2, 0)] ++ [(13, 0)] ++ [(14, 0)] ++ [(15, 0)] ++ [(16, 0)] ++ [(3, 0)] ++ [(17, 0)] ++ [(18, 0)] ++ [(19, 0)] ++ [(20, 0)] ++ [(4, 0)] ++ [(21, 0)] ++ [(22, 0)] ++ [(23, 0)]) u8 (cX cI cJ u8 (up2 (up2 (cX cI cJ u6 (up2 (up2 (cX cI cJ u4 (up2 (up2 (cX cI cJ u2 (up2 ce 1 0 (.inr (2, [.null, .null, .null, .null, .null, .null, .int 0, .int 0]))) [(1, 0), (7, 0), (8, 0), (9, 0), (10, 0), (11, 0), (12, 0)]) 0 0 (.inr (5, [.ref a1_1, .null, .null, .null, .null, .int 0, .int 0]))) 2 0 (.inr (3, [.null, .null, .null, .null, .int 0]))) [(2, 0), (13, 0), (14, 0), (15, 0), (16, 0)]) 0 0 (.inr (5, [.ref a1_1, .ref a2_3, .null, .null, .null, .int 0, .int 0]))) 3 0 (.inr (4, [.null, .null, .null, .null, .int 0]))) [(3, 0), (17, 0), (18, 0), (19, 0), (20, 0)]) 0 0 (.inr (5, [.ref a1_1, .ref a2_3, .ref a3_5, .null, .null, .int 0, .int 0]))) 4 0 (.inr (0, [.null, .null, .null, .null, .null, .null, .int 0]))) [(4, 0), (21, 0), (22, 0), (23, 0)]) s.heap H locs := hw
  obtain ⟨a21_8, ha21_8⟩ : ∃ a, u8 21 0 = a := ⟨_, rfl⟩
  have ma21_8 : (21, 0) ∈ L ++ [(1, 0)] ++ [(7, 0)] ++ [(8, 0)] ++ [(9, 0)] ++ [(10, 0)] ++ [(11, 0)] ++ [(12, 0)] ++ [(2, 0)] ++ [(13, 0)] ++ [(14, 0)] ++ [(15, 0)] ++ [(16, 0)] ++ [(3, 0)] ++ [(17, 0)] ++ [(18, 0)] ++ [(19, 0)] ++ [(20, 0)] ++ [(4, 0)] ++ [(21, 0)] ++ [(22, 0)] ++ [(23, 0)] := by simp
  obtain ⟨a22_8, ha22_8⟩ : ∃ a, u8 22 0 = a := ⟨_, rfl⟩
  have ma22_8 : (22, 0) ∈ L ++ [(1, 0)] ++ [(7, 0)] ++ [(8, 0)] ++ [(9, 0)] ++ [(10, 0)] ++ [(11, 0)] ++ [(12, 0)] ++ [(2, 0)] ++ [(13, 0)] ++ [(14, 0)] ++ [(15, 0)] ++ [(16, 0)] ++ [(3, 0)] ++ [(17, 0)] ++ [(18, 0)] ++ [(19, 0)] ++ [(20, 0)] ++ [(4, 0)] ++ [(21, 0)] ++ [(22, 0)] ++ [(23, 0)] := by simp
  obtain ⟨a23_8, ha23_8⟩ : ∃ a, u8 23 0 = a := ⟨_, rfl⟩
  have ma23_8 : (23, 0) ∈ L ++ [(1, 0)] ++ [(7, 0)] ++ [(8, 0)] ++ [(9, 0)] ++ [(10, 0)] ++ [(11, 0)] ++ [(12, 0)] ++ [(2, 0)] ++ [(13, 0)] ++ [(14, 0)] ++ [(15, 0)] ++ [(16, 0)] ++ [(3, 0)] ++ [(17, 0)] ++ [(18, 0)] ++ [(19, 0)] ++ [(20, 0)] ++ [(4, 0)] ++ [(21, 0)] ++ [(22, 0)] ++ [(23, 0)] := by simp
  have g_u8_0 := ha0
  have g_u8_1 := ha1_1
  have g_u8_7 := ha7_2
  have g_u8_8 := ha8_2
  have g_u8_9 := ha9_2
  have g_u8_10 := ha10_2
  have g_u8_11 := ha11_2
  have g_u8_12 := ha12_2
  have g_u8_2 := ha2_3
  have g_u8_13 := ha13_4
  have g_u8_14 := ha14_4
  have g_u8_15 := ha15_4
  have g_u8_16 := ha16_4
  have g_u8_3 := ha3_5
  have g_u8_17 := ha17_6
  have g_u8_18 := ha18_6
  have g_u8_19 := ha19_6
  have g_u8_20 := ha20_6
  have g_u8_4 := ha4_7
  have g_u8_21 := ha21_8
  have g_u8_22 := ha22_8
  have g_u8_23 := ha23_8
  refine k_putF2 (C := RX5) (T := TX5) (N := 7) (v := .ref a4_7) (ty := (.object "OnboardingWorks$Forecast")) hx hb hts inB_X5 tyX5 tyX5_ok nmX5 hown hK hw ma0 ha0 ((cX_o (by simp)).trans ((up2_n (by decide)).trans up2_eq)) rfl 3 (by decide) (hts _ w_f_X5_35) (fun _ h9 => h9) hin rfl rfl (by decide +kernel) rfl rfl (Nat.le_of_ble_eq_true rfl) dX5_init_57 (fun H locs hw => ?_)
  refine lv_aload_n hx hb dX5_init_60 rfl (lv_at hl 0 rfl) ?_
  refine lv_bipush (v := 8) hx hb dX5_init_61 (by decide) ?_
  refine k_newq2 hx hb hown (hts _ w_cl_X5_39) hO.2.2.2.2.1 hK hw hA 2 rfl (n := 8) (N' := 8) (by decide) (by decide) (Nat.le_of_ble_eq_true rfl) (Nat.le_of_ble_eq_true rfl) (Nat.le_of_ble_eq_true rfl) 5 0 (by intro z; (try simp at z); exact absurd (hfr _ _ z (by decide)) (by decide)) dX5_init_63 (fun u9 a5_9 H hE9 ha5_9 hw => ?_)
  have ha0 := (hE9 _ _ ma0).trans ha0
  have ha1_1 := (hE9 _ _ ma1_1).trans ha1_1
  have ha7_2 := (hE9 _ _ ma7_2).trans ha7_2
  have ha8_2 := (hE9 _ _ ma8_2).trans ha8_2
  have ha9_2 := (hE9 _ _ ma9_2).trans ha9_2
  have ha10_2 := (hE9 _ _ ma10_2).trans ha10_2
  have ha11_2 := (hE9 _ _ ma11_2).trans ha11_2
  have ha12_2 := (hE9 _ _ ma12_2).trans ha12_2
  have ha2_3 := (hE9 _ _ ma2_3).trans ha2_3
  have ha13_4 := (hE9 _ _ ma13_4).trans ha13_4
  have ha14_4 := (hE9 _ _ ma14_4).trans ha14_4
  have ha15_4 := (hE9 _ _ ma15_4).trans ha15_4
  have ha16_4 := (hE9 _ _ ma16_4).trans ha16_4
  have ha3_5 := (hE9 _ _ ma3_5).trans ha3_5
  have ha17_6 := (hE9 _ _ ma17_6).trans ha17_6
  have ha18_6 := (hE9 _ _ ma18_6).trans ha18_6
  have ha19_6 := (hE9 _ _ ma19_6).trans ha19_6
  have ha20_6 := (hE9 _ _ ma20_6).trans ha20_6
  have ha4_7 := (hE9 _ _ ma4_7).trans ha4_7
  have ha21_8 := (hE9 _ _ ma21_8).trans ha21_8
  have ha22_8 := (hE9 _ _ ma22_8).trans ha22_8
  have ha23_8 := (hE9 _ _ ma23_8).trans ha23_8
  have ma0 := List.mem_append_left [(5, 0)] ma0
  have ma1_1 := List.mem_append_left [(5, 0)] ma1_1
  have ma7_2 := List.mem_append_left [(5, 0)] ma7_2
  have ma8_2 := List.mem_append_left [(5, 0)] ma8_2
  have ma9_2 := List.mem_append_left [(5, 0)] ma9_2
  have ma10_2 := List.mem_append_left [(5, 0)] ma10_2
  have ma11_2 := List.mem_append_left [(5, 0)] ma11_2
  have ma12_2 := List.mem_append_left [(5, 0)] ma12_2
  have ma2_3 := List.mem_append_left [(5, 0)] ma2_3
  have ma13_4 := List.mem_append_left [(5, 0)] ma13_4
  have ma14_4 := List.mem_append_left [(5, 0)] ma14_4
  have ma15_4 := List.mem_append_left [(5, 0)] ma15_4
  have ma16_4 := List.mem_append_left [(5, 0)] ma16_4
  have ma3_5 := List.mem_append_left [(5, 0)] ma3_5
  have ma17_6 := List.mem_append_left [(5, 0)] ma17_6
  have ma18_6 := List.mem_append_left [(5, 0)] ma18_6
  have ma19_6 := List.mem_append_left [(5, 0)] ma19_6
  have ma20_6 := List.mem_append_left [(5, 0)] ma20_6
  have ma4_7 := List.mem_append_left [(5, 0)] ma4_7
  have ma21_8 := List.mem_append_left [(5, 0)] ma21_8
  have ma22_8 := List.mem_append_left [(5, 0)] ma22_8
  have ma23_8 := List.mem_append_left [(5, 0)] ma23_8
  have hX := Ex.tr hX hE9 hs
  have hs := fun i h => List.mem_append_left [(5, 0)] (hs i h)
  have ma5_9 := List.mem_append_right (L ++ [(1, 0)] ++ [(7, 0)] ++ [(8, 0)] ++ [(9, 0)] ++ [(10, 0)] ++ [(11, 0)] ++ [(12, 0)] ++ [(2, 0)] ++ [(13, 0)] ++ [(14, 0)] ++ [(15, 0)] ++ [(16, 0)] ++ [(3, 0)] ++ [(17, 0)] ++ [(18, 0)] ++ [(19, 0)] ++ [(20, 0)] ++ [(4, 0)] ++ [(21, 0)] ++ [(22, 0)] ++ [(23, 0)]) (List.mem_singleton_self (5, 0))
  refine k_putF2 (C := RX5) (T := TX5) (N := 7) (v := .ref a5_9) (ty := (.array (.object "OnboardingWorks$Joiner"))) hx hb hts inB_X5 tyX5 tyX5_ok nmX5 hown hK hw ma0 ha0 ((up2_n (by decide)).trans up2_eq) rfl 4 (by decide) (hts _ w_f_X5_41) (fun _ h9 => h9) hin rfl rfl (by decide +kernel) rfl rfl (Nat.le_of_ble_eq_true rfl) dX5_init_66 (fun H locs hw => ?_)
  refine lv_iconst (v := 0) hx hb dX5_init_69 (by decide) ?_
  refine lv_istore_n (lv' := [(1, .int 0), (0, .ref a0)]) hx hb dX5_init_70 rfl hl (by decide) rfl (fun ls hl => ?_)
  obtain ⟨CE, hCE⟩ : ∃ CE : Nat → Nat → va_E, CE = up2 (up2 (up2 (cX cI cJ u8 (up2 (up2 (cX cI cJ u6 (up2 (up2 (cX cI cJ u4 (up2 (up2 (cX cI cJ u2 (up2 ce 1 0 (.inr (2, [.null, .null, .null, .null, .null, .null, .int 0, .int 0]))) [(1, 0), (7, 0), (8, 0), (9, 0), (10, 0), (11, 0), (12, 0)]) 0 0 (.inr (5, [.ref a1_1, .null, .null, .null, .null, .int 0, .int 0]))) 2 0 (.inr (3, [.null, .null, .null, .null, .int 0]))) [(2, 0), (13, 0), (14, 0), (15, 0), (16, 0)]) 0 0 (.inr (5, [.ref a1_1, .ref a2_3, .null, .null, .null, .int 0, .int 0]))) 3 0 (.inr (4, [.null, .null, .null, .null, .int 0]))) [(3, 0), (17, 0), (18, 0), (19, 0), (20, 0)]) 0 0 (.inr (5, [.ref a1_1, .ref a2_3, .ref a3_5, .null, .null, .int 0, .int 0]))) 4 0 (.inr (0, [.null, .null, .null, .null, .null, .null, .int 0]))) [(4, 0), (21, 0), (22, 0), (23, 0)]) 0 0 (.inr (5, [.ref a1_1, .ref a2_3, .ref a3_5, .ref a4_7, .null, .int 0, .int 0]))) 5 0 (.inl (cJ, 8, .inr (.inr (.inr (.inr (fun _ => none))))))) 0 0 (.inr (5, [.ref a1_1, .ref a2_3, .ref a3_5, .ref a4_7, .ref a5_9, .int 0, .int 0])) := ⟨_, rfl⟩
  have hw : wk D A (L ++ [(1, 0)] ++ [(7, 0)] ++ [(8, 0)] ++ [(9, 0)] ++ [(10, 0)] ++ [(11, 0)] ++ [(12, 0)] ++ [(2, 0)] ++ [(13, 0)] ++ [(14, 0)] ++ [(15, 0)] ++ [(16, 0)] ++ [(3, 0)] ++ [(17, 0)] ++ [(18, 0)] ++ [(19, 0)] ++ [(20, 0)] ++ [(4, 0)] ++ [(21, 0)] ++ [(22, 0)] ++ [(23, 0)] ++ [(5, 0)]) u9 CE s.heap H locs := by rw [hCE]; exact hw
  have hth : CE 0 0 = .inr (5, [.ref a1_1, .ref a2_3, .ref a3_5, .ref a4_7, .ref a5_9, .int 0, .int 0]) := by rw [hCE]; exact up2_eq
  have hc5 : CE 5 0 = .inl (cJ, 8, .inr (.inr (.inr (.inr (fun _ => none))))) := by rw [hCE]; exact ((up2_n (by decide)).trans up2_eq)
  have hCN : ∀ f o, ¬ (f = 5 ∧ o = 0) → CE f o = if (f, o) ∈ NW then ccell cI cJ u9 f o (S0 f o) else ce f o := by
    intro f o z5
    by_cases h : (f, o) ∈ ([(0, 0), (1, 0), (2, 0), (3, 0), (4, 0), (7, 0), (8, 0), (9, 0), (10, 0), (11, 0), (12, 0), (13, 0), (14, 0), (15, 0), (16, 0), (17, 0), (18, 0), (19, 0), (20, 0), (21, 0), (22, 0), (23, 0)] : List (Nat × Nat))
    · rw [if_pos h, hCE]
      simp only [List.mem_cons, List.not_mem_nil, or_false, Prod.mk.injEq] at h
      rcases h with ⟨rfl, rfl⟩ | ⟨rfl, rfl⟩ | ⟨rfl, rfl⟩ | ⟨rfl, rfl⟩ | ⟨rfl, rfl⟩ | ⟨rfl, rfl⟩ | ⟨rfl, rfl⟩ | ⟨rfl, rfl⟩ | ⟨rfl, rfl⟩ | ⟨rfl, rfl⟩ | ⟨rfl, rfl⟩ | ⟨rfl, rfl⟩ | ⟨rfl, rfl⟩ | ⟨rfl, rfl⟩ | ⟨rfl, rfl⟩ | ⟨rfl, rfl⟩ | ⟨rfl, rfl⟩ | ⟨rfl, rfl⟩ | ⟨rfl, rfl⟩ | ⟨rfl, rfl⟩ | ⟨rfl, rfl⟩ | ⟨rfl, rfl⟩
      · refine (up2_eq).trans ?_
        rw [cc_0, ha1_1, ha2_3, ha3_5, ha4_7, ha5_9]
        all_goals rfl
      · refine (((up2_n (by decide)).trans ((up2_n (by decide)).trans ((up2_n (by decide)).trans ((cX_o (by simp)).trans ((up2_n (by decide)).trans ((up2_n (by decide)).trans ((cX_o (by simp)).trans ((up2_n (by decide)).trans ((up2_n (by decide)).trans ((cX_o (by simp)).trans ((up2_n (by decide)).trans ((up2_n (by decide)).trans (cX_i (by simp))))))))))))))).trans ?_
        rw [cc_1, cc_1, g_u2_7, ha7_2, g_u2_8, ha8_2, g_u2_9, ha9_2, g_u2_10, ha10_2, g_u2_11, ha11_2, g_u2_12, ha12_2]
      · refine (((up2_n (by decide)).trans ((up2_n (by decide)).trans ((up2_n (by decide)).trans ((cX_o (by simp)).trans ((up2_n (by decide)).trans ((up2_n (by decide)).trans ((cX_o (by simp)).trans ((up2_n (by decide)).trans ((up2_n (by decide)).trans (cX_i (by simp)))))))))))).trans ?_
        rw [cc_2, cc_2, g_u4_13, ha13_4, g_u4_14, ha14_4, g_u4_15, ha15_4, g_u4_16, ha16_4]
      · refine (((up2_n (by decide)).trans ((up2_n (by decide)).trans ((up2_n (by decide)).trans ((cX_o (by simp)).trans ((up2_n (by decide)).trans ((up2_n (by decide)).trans (cX_i (by simp))))))))).trans ?_
        rw [cc_3, cc_3, g_u6_17, ha17_6, g_u6_18, ha18_6, g_u6_19, ha19_6, g_u6_20, ha20_6]
      · refine (((up2_n (by decide)).trans ((up2_n (by decide)).trans ((up2_n (by decide)).trans (cX_i (by simp)))))).trans ?_
        rw [cc_4, cc_4, g_u8_1, ha1_1, g_u8_2, ha2_3, g_u8_3, ha3_5, g_u8_21, ha21_8, g_u8_22, ha22_8, g_u8_23, ha23_8]
      · refine (((up2_n (by decide)).trans ((up2_n (by decide)).trans ((up2_n (by decide)).trans ((cX_o (by simp)).trans ((up2_n (by decide)).trans ((up2_n (by decide)).trans ((cX_o (by simp)).trans ((up2_n (by decide)).trans ((up2_n (by decide)).trans ((cX_o (by simp)).trans ((up2_n (by decide)).trans ((up2_n (by decide)).trans (cX_i (by simp))))))))))))))).trans ?_
        rfl
      · refine (((up2_n (by decide)).trans ((up2_n (by decide)).trans ((up2_n (by decide)).trans ((cX_o (by simp)).trans ((up2_n (by decide)).trans ((up2_n (by decide)).trans ((cX_o (by simp)).trans ((up2_n (by decide)).trans ((up2_n (by decide)).trans ((cX_o (by simp)).trans ((up2_n (by decide)).trans ((up2_n (by decide)).trans (cX_i (by simp))))))))))))))).trans ?_
        rfl
      · refine (((up2_n (by decide)).trans ((up2_n (by decide)).trans ((up2_n (by decide)).trans ((cX_o (by simp)).trans ((up2_n (by decide)).trans ((up2_n (by decide)).trans ((cX_o (by simp)).trans ((up2_n (by decide)).trans ((up2_n (by decide)).trans ((cX_o (by simp)).trans ((up2_n (by decide)).trans ((up2_n (by decide)).trans (cX_i (by simp))))))))))))))).trans ?_
        rfl
      · refine (((up2_n (by decide)).trans ((up2_n (by decide)).trans ((up2_n (by decide)).trans ((cX_o (by simp)).trans ((up2_n (by decide)).trans ((up2_n (by decide)).trans ((cX_o (by simp)).trans ((up2_n (by decide)).trans ((up2_n (by decide)).trans ((cX_o (by simp)).trans ((up2_n (by decide)).trans ((up2_n (by decide)).trans (cX_i (by simp))))))))))))))).trans ?_
        rfl
      · refine (((up2_n (by decide)).trans ((up2_n (by decide)).trans ((up2_n (by decide)).trans ((cX_o (by simp)).trans ((up2_n (by decide)).trans ((up2_n (by decide)).trans ((cX_o (by simp)).trans ((up2_n (by decide)).trans ((up2_n (by decide)).trans ((cX_o (by simp)).trans ((up2_n (by decide)).trans ((up2_n (by decide)).trans (cX_i (by simp))))))))))))))).trans ?_
        rfl
      · refine (((up2_n (by decide)).trans ((up2_n (by decide)).trans ((up2_n (by decide)).trans ((cX_o (by simp)).trans ((up2_n (by decide)).trans ((up2_n (by decide)).trans ((cX_o (by simp)).trans ((up2_n (by decide)).trans ((up2_n (by decide)).trans ((cX_o (by simp)).trans ((up2_n (by decide)).trans ((up2_n (by decide)).trans (cX_i (by simp))))))))))))))).trans ?_
        rfl
      · refine (((up2_n (by decide)).trans ((up2_n (by decide)).trans ((up2_n (by decide)).trans ((cX_o (by simp)).trans ((up2_n (by decide)).trans ((up2_n (by decide)).trans ((cX_o (by simp)).trans ((up2_n (by decide)).trans ((up2_n (by decide)).trans (cX_i (by simp)))))))))))).trans ?_
        rfl
      · refine (((up2_n (by decide)).trans ((up2_n (by decide)).trans ((up2_n (by decide)).trans ((cX_o (by simp)).trans ((up2_n (by decide)).trans ((up2_n (by decide)).trans ((cX_o (by simp)).trans ((up2_n (by decide)).trans ((up2_n (by decide)).trans (cX_i (by simp)))))))))))).trans ?_
        rfl
      · refine (((up2_n (by decide)).trans ((up2_n (by decide)).trans ((up2_n (by decide)).trans ((cX_o (by simp)).trans ((up2_n (by decide)).trans ((up2_n (by decide)).trans ((cX_o (by simp)).trans ((up2_n (by decide)).trans ((up2_n (by decide)).trans (cX_i (by simp)))))))))))).trans ?_
        rfl
      · refine (((up2_n (by decide)).trans ((up2_n (by decide)).trans ((up2_n (by decide)).trans ((cX_o (by simp)).trans ((up2_n (by decide)).trans ((up2_n (by decide)).trans ((cX_o (by simp)).trans ((up2_n (by decide)).trans ((up2_n (by decide)).trans (cX_i (by simp)))))))))))).trans ?_
        rfl
      · refine (((up2_n (by decide)).trans ((up2_n (by decide)).trans ((up2_n (by decide)).trans ((cX_o (by simp)).trans ((up2_n (by decide)).trans ((up2_n (by decide)).trans (cX_i (by simp))))))))).trans ?_
        rfl
      · refine (((up2_n (by decide)).trans ((up2_n (by decide)).trans ((up2_n (by decide)).trans ((cX_o (by simp)).trans ((up2_n (by decide)).trans ((up2_n (by decide)).trans (cX_i (by simp))))))))).trans ?_
        rfl
      · refine (((up2_n (by decide)).trans ((up2_n (by decide)).trans ((up2_n (by decide)).trans ((cX_o (by simp)).trans ((up2_n (by decide)).trans ((up2_n (by decide)).trans (cX_i (by simp))))))))).trans ?_
        rfl
      · refine (((up2_n (by decide)).trans ((up2_n (by decide)).trans ((up2_n (by decide)).trans ((cX_o (by simp)).trans ((up2_n (by decide)).trans ((up2_n (by decide)).trans (cX_i (by simp))))))))).trans ?_
        rfl
      · refine (((up2_n (by decide)).trans ((up2_n (by decide)).trans ((up2_n (by decide)).trans (cX_i (by simp)))))).trans ?_
        rfl
      · refine (((up2_n (by decide)).trans ((up2_n (by decide)).trans ((up2_n (by decide)).trans (cX_i (by simp)))))).trans ?_
        rfl
      · refine (((up2_n (by decide)).trans ((up2_n (by decide)).trans ((up2_n (by decide)).trans (cX_i (by simp)))))).trans ?_
        rfl
    · rw [if_neg h, hCE]
      have z1 : ¬ (f = 1 ∧ o = 0) := fun z => h (by rw [z.1, z.2]; simp)
      have z0 : ¬ (f = 0 ∧ o = 0) := fun z => h (by rw [z.1, z.2]; simp)
      have z2 : ¬ (f = 2 ∧ o = 0) := fun z => h (by rw [z.1, z.2]; simp)
      have z3 : ¬ (f = 3 ∧ o = 0) := fun z => h (by rw [z.1, z.2]; simp)
      have z4 : ¬ (f = 4 ∧ o = 0) := fun z => h (by rw [z.1, z.2]; simp)
      have y1 : (f, o) ∉ ([(1, 0), (7, 0), (8, 0), (9, 0), (10, 0), (11, 0), (12, 0)] : List (Nat × Nat)) := fun z => h ((by decide : ∀ i ∈ ([(1, 0), (7, 0), (8, 0), (9, 0), (10, 0), (11, 0), (12, 0)] : List (Nat × Nat)), i ∈ ([(0, 0), (1, 0), (2, 0), (3, 0), (4, 0), (7, 0), (8, 0), (9, 0), (10, 0), (11, 0), (12, 0), (13, 0), (14, 0), (15, 0), (16, 0), (17, 0), (18, 0), (19, 0), (20, 0), (21, 0), (22, 0), (23, 0)] : List (Nat × Nat))) _ z)
      have y2 : (f, o) ∉ ([(2, 0), (13, 0), (14, 0), (15, 0), (16, 0)] : List (Nat × Nat)) := fun z => h ((by decide : ∀ i ∈ ([(2, 0), (13, 0), (14, 0), (15, 0), (16, 0)] : List (Nat × Nat)), i ∈ ([(0, 0), (1, 0), (2, 0), (3, 0), (4, 0), (7, 0), (8, 0), (9, 0), (10, 0), (11, 0), (12, 0), (13, 0), (14, 0), (15, 0), (16, 0), (17, 0), (18, 0), (19, 0), (20, 0), (21, 0), (22, 0), (23, 0)] : List (Nat × Nat))) _ z)
      have y3 : (f, o) ∉ ([(3, 0), (17, 0), (18, 0), (19, 0), (20, 0)] : List (Nat × Nat)) := fun z => h ((by decide : ∀ i ∈ ([(3, 0), (17, 0), (18, 0), (19, 0), (20, 0)] : List (Nat × Nat)), i ∈ ([(0, 0), (1, 0), (2, 0), (3, 0), (4, 0), (7, 0), (8, 0), (9, 0), (10, 0), (11, 0), (12, 0), (13, 0), (14, 0), (15, 0), (16, 0), (17, 0), (18, 0), (19, 0), (20, 0), (21, 0), (22, 0), (23, 0)] : List (Nat × Nat))) _ z)
      have y4 : (f, o) ∉ ([(4, 0), (21, 0), (22, 0), (23, 0)] : List (Nat × Nat)) := fun z => h ((by decide : ∀ i ∈ ([(4, 0), (21, 0), (22, 0), (23, 0)] : List (Nat × Nat)), i ∈ ([(0, 0), (1, 0), (2, 0), (3, 0), (4, 0), (7, 0), (8, 0), (9, 0), (10, 0), (11, 0), (12, 0), (13, 0), (14, 0), (15, 0), (16, 0), (17, 0), (18, 0), (19, 0), (20, 0), (21, 0), (22, 0), (23, 0)] : List (Nat × Nat))) _ z)
      exact ((up2_o z0).trans ((up2_o z5).trans ((up2_o z0).trans ((cX_o y4).trans ((up2_o z4).trans ((up2_o z0).trans ((cX_o y3).trans ((up2_o z3).trans ((up2_o z0).trans ((cX_o y2).trans ((up2_o z2).trans ((up2_o z0).trans ((cX_o y1).trans ((up2_o z1).trans rfl))))))))))))))
  have hm5 : ∀ f, 0 < f → f < 24 → f ≠ 6 → (f, 0) ∈ L ++ [(1, 0)] ++ [(7, 0)] ++ [(8, 0)] ++ [(9, 0)] ++ [(10, 0)] ++ [(11, 0)] ++ [(12, 0)] ++ [(2, 0)] ++ [(13, 0)] ++ [(14, 0)] ++ [(15, 0)] ++ [(16, 0)] ++ [(3, 0)] ++ [(17, 0)] ++ [(18, 0)] ++ [(19, 0)] ++ [(20, 0)] ++ [(4, 0)] ++ [(21, 0)] ++ [(22, 0)] ++ [(23, 0)] ++ [(5, 0)] := by
    intro f h1 h2 h3
    have : f = 1 ∨ f = 2 ∨ f = 3 ∨ f = 4 ∨ f = 5 ∨ f = 7 ∨ f = 8 ∨ f = 9 ∨ f = 10 ∨ f = 11 ∨ f = 12 ∨ f = 13 ∨ f = 14 ∨ f = 15 ∨ f = 16 ∨ f = 17 ∨ f = 18 ∨ f = 19 ∨ f = 20 ∨ f = 21 ∨ f = 22 ∨ f = 23 := by omega
    rcases this with rfl | rfl | rfl | rfl | rfl | rfl | rfl | rfl | rfl | rfl | rfl | rfl | rfl | rfl | rfl | rfl | rfl | rfl | rfl | rfl | rfl | rfl <;> simp
  have hLn : ∀ f o, jid f → (f, o) ∉ L ++ [(1, 0)] ++ [(7, 0)] ++ [(8, 0)] ++ [(9, 0)] ++ [(10, 0)] ++ [(11, 0)] ++ [(12, 0)] ++ [(2, 0)] ++ [(13, 0)] ++ [(14, 0)] ++ [(15, 0)] ++ [(16, 0)] ++ [(3, 0)] ++ [(17, 0)] ++ [(18, 0)] ++ [(19, 0)] ++ [(20, 0)] ++ [(4, 0)] ++ [(21, 0)] ++ [(22, 0)] ++ [(23, 0)] ++ [(5, 0)] := by
    intro f o hj z
    simp at z
    have := hfr f o
    rcases hj with rfl | rfl | rfl | rfl | rfl | rfl <;> simp at z <;> exact absurd (hfr _ _ z (by decide)) (by decide)
  clear hCE
  have key : ∀ (k j : Nat) (u : Nat → Nat → Nat) (H : Heap) (locs : List Loc) (ls : Array Slot), j + k = 8 → Ex (L ++ [(1, 0)] ++ [(7, 0)] ++ [(8, 0)] ++ [(9, 0)] ++ [(10, 0)] ++ [(11, 0)] ++ [(12, 0)] ++ [(2, 0)] ++ [(13, 0)] ++ [(14, 0)] ++ [(15, 0)] ++ [(16, 0)] ++ [(3, 0)] ++ [(17, 0)] ++ [(18, 0)] ++ [(19, 0)] ++ [(20, 0)] ++ [(4, 0)] ++ [(21, 0)] ++ [(22, 0)] ++ [(23, 0)] ++ [(5, 0)]) u9 u → wk D A (LJ (L ++ [(1, 0)] ++ [(7, 0)] ++ [(8, 0)] ++ [(9, 0)] ++ [(10, 0)] ++ [(11, 0)] ++ [(12, 0)] ++ [(2, 0)] ++ [(13, 0)] ++ [(14, 0)] ++ [(15, 0)] ++ [(16, 0)] ++ [(3, 0)] ++ [(17, 0)] ++ [(18, 0)] ++ [(19, 0)] ++ [(20, 0)] ++ [(4, 0)] ++ [(21, 0)] ++ [(22, 0)] ++ [(23, 0)] ++ [(5, 0)]) j) u (cJn cI cJ u CE j) s.heap H locs → lv_has ls 2 [(1, .int (nI j)), (0, .ref a0)] → W p l e (headSpec bw_X5_init rm_X5_init).room s m args below meth c H locs (22 + 6 * j) (263 + 68 * j) (MQ below (kQx D A L ad (LJ (L ++ [(1, 0)] ++ [(7, 0)] ++ [(8, 0)] ++ [(9, 0)] ++ [(10, 0)] ++ [(11, 0)] ++ [(12, 0)] ++ [(2, 0)] ++ [(13, 0)] ++ [(14, 0)] ++ [(15, 0)] ++ [(16, 0)] ++ [(3, 0)] ++ [(17, 0)] ++ [(18, 0)] ++ [(19, 0)] ++ [(20, 0)] ++ [(4, 0)] ++ [(21, 0)] ++ [(22, 0)] ++ [(23, 0)] ++ [(5, 0)]) 8) (fun u => cA cI cJ u ce)) args s 70 807 A) (F0 m 71 ls []) := by
    intro k
    induction k with
    | zero =>
      intro j u H locs ls hk hE hw hl
      obtain rfl : j = 8 := hk
      refine lv_iload_n hx hb dX5_init_71 rfl (lv_at hl 0 rfl) ?_
      refine lv_bipush (v := 8) hx hb dX5_init_72 (by decide) ?_
      refine lv_icmp_ge (tgt := 96) hx hb dX5_init_74 (by decide) (fun _ => ?_) (fun h => absurd (by decide) h)
      refine k_vretx hx hb hr hlocks hw (Ex.tr hX hE hs) ?_ (Nat.le_of_ble_eq_true rfl) (Nat.le_of_ble_eq_true rfl) dX5_init_96
      exact cA_x hCN (fun f h1 h2 h3 => hE f 0 (hm5 f h1 h2 h3))
    | succ k ih =>
      intro j u H locs ls hk hE hw hl
      have hj : j < 8 := by omega
      refine lv_iload_n hx hb dX5_init_71 rfl (lv_at hl 0 rfl) ?_
      refine lv_bipush (v := 8) hx hb dX5_init_72 (by decide) ?_
      refine lv_icmp_ge (tgt := 96) hx hb dX5_init_74 (by decide) (fun h => absurd h (nI_ge (b := 8) hj (by decide))) (fun _ => ?_)
      refine lv_aload_n hx hb dX5_init_77 rfl (lv_at hl 1 rfl) ?_
      have ha0 := (hE _ _ ma0).trans ha0
      have ha5 := (hE _ _ ma5_9).trans ha5_9
      refine k_get2 (C := RX5) (T := TX5) (N := 7) (v := .ref a5_9) hx hb hts inB_X5 hown hK hw (LJ_L ma0) ha0 ((cJn_o (by decide) (by decide)).trans hth) rfl 4 (by decide) (hts _ w_f_X5_41) (fun _ h9 => h9) rfl dX5_init_78 ?_
      refine lv_iload_n hx hb dX5_init_81 rfl (lv_at hl 0 rfl) ?_
      refine k_new2 (C := RX1) (T := TX1) (N := 8) (ci := 1) (fs := [.null, .null, .null, .null, .null, .int 0, .int 0, .int 0]) hx hb hts inB_X1 tyX1 tyX1_ok hown (hts _ w_cl_X5_39) (hts _ w_is_X1) (hts _ w_in_X1) hK hw hA rfl (fun j hj => match j, hj with | 0, _ => rfl | 1, _ => rfl | 2, _ => rfl | 3, _ => rfl | 4, _ => rfl | 5, _ => rfl | 6, _ => rfl | 7, _ => rfl | n + 8, h => absurd h (by omega)) (show 22 + 6 * j + 1 ≤ 70 from by omega) (show 263 + 68 * j + 8 ≤ 807 from by omega) 6 j (LJ_n (hLn 6 j (Or.inl rfl)) (Nat.le_refl _)) dX5_init_82 (fun u1 a6 H hE1 ha6 hw => ?_)
      refine lv_dup hx hb dX5_init_85 rfl ?_
      refine k_cvx hw (k_rI (As := []) (rest := [.ref a6, .int (nI j), .ref a5_9]) ⟨hx, hb, hml, hown, hts⟩ hK hO hw (ct_X1_init (j := j) (List.mem_append_right _ (List.mem_singleton_self _)) ha6 up2_eq (nmemf (LJ_n (hLn 24 j (by decide)) (Nat.le_refl _)) (by decide)) (nmemf (LJ_n (hLn 25 j (by decide)) (Nat.le_refl _)) (by decide)) (nmemf (LJ_n (hLn 26 j (by decide)) (Nat.le_refl _)) (by decide)) (nmemf (LJ_n (hLn 27 j (by decide)) (Nat.le_refl _)) (by decide)) (nmemf (LJ_n (hLn 28 j (by decide)) (Nat.le_refl _)) (by decide)) _ (wk.hA hw hA)) (cwI 0 hts (gB_0 w_co_X1_init) rfl rfl rfl (hts _ w_in_X1) (hts _ w_ml_X5_45) (hts _ w_im_X1_init) rfl (by decide +kernel) ⟨by decide, by decide⟩) rfl hl.1 rfl (Nat.le_of_ble_eq_true rfl) dX5_init_86 ⟨show 22 + 6 * j + 1 + 5 ≤ 70 from by omega, show 263 + 68 * j + 8 + 60 ≤ 807 from by omega⟩) (fun u2 H locs hE2 hw => ?_)
      have ha6 := (hE2 _ _ (List.mem_append_right _ (List.mem_singleton_self _))).trans ha6
      have hE12 : Ex (LJ (L ++ [(1, 0)] ++ [(7, 0)] ++ [(8, 0)] ++ [(9, 0)] ++ [(10, 0)] ++ [(11, 0)] ++ [(12, 0)] ++ [(2, 0)] ++ [(13, 0)] ++ [(14, 0)] ++ [(15, 0)] ++ [(16, 0)] ++ [(3, 0)] ++ [(17, 0)] ++ [(18, 0)] ++ [(19, 0)] ++ [(20, 0)] ++ [(4, 0)] ++ [(21, 0)] ++ [(22, 0)] ++ [(23, 0)] ++ [(5, 0)]) j) u u2 := Ex.tr hE1 hE2 (fun _ h => List.mem_append_left _ h)
      have ha5 := (hE12 _ _ (LJ_L ma5_9)).trans ha5
      have m6 : (6, j) ∈ LJ (L ++ [(1, 0)] ++ [(7, 0)] ++ [(8, 0)] ++ [(9, 0)] ++ [(10, 0)] ++ [(11, 0)] ++ [(12, 0)] ++ [(2, 0)] ++ [(13, 0)] ++ [(14, 0)] ++ [(15, 0)] ++ [(16, 0)] ++ [(3, 0)] ++ [(17, 0)] ++ [(18, 0)] ++ [(19, 0)] ++ [(20, 0)] ++ [(4, 0)] ++ [(21, 0)] ++ [(22, 0)] ++ [(23, 0)] ++ [(5, 0)]) j ++ [(6, j)] ++ [(24, j)] ++ [(25, j)] ++ [(26, j)] ++ [(27, j)] ++ [(28, j)] := by simp
      have m5 : (5, 0) ∈ LJ (L ++ [(1, 0)] ++ [(7, 0)] ++ [(8, 0)] ++ [(9, 0)] ++ [(10, 0)] ++ [(11, 0)] ++ [(12, 0)] ++ [(2, 0)] ++ [(13, 0)] ++ [(14, 0)] ++ [(15, 0)] ++ [(16, 0)] ++ [(3, 0)] ++ [(17, 0)] ++ [(18, 0)] ++ [(19, 0)] ++ [(20, 0)] ++ [(4, 0)] ++ [(21, 0)] ++ [(22, 0)] ++ [(23, 0)] ++ [(5, 0)]) (j + 1) := LJ_L ma5_9
      refine k_astq2 hx hb hK hw m5 ha5 2 m6 ha6 ((cX_o (by simp)).trans ((up2_n (by decide)).trans cJn_5)) rfl ((cX_i (by simp)).trans cc_6) rfl (vp_in_nI hj (by decide)) dX5_init_89 (fun H locs hw => ?_)
      rw [nI_clamp (show j < 2 ^ 31 from by omega)] at hw
      have hw := (cJn_s hE12 ha6) ▸ hw
      refine lv_iinc (v := nI (j + 1)) (lv' := [(1, .int (nI (j + 1))), (0, .ref a0)]) hx hb dX5_init_90 hl (k := 0) rfl (nI_1 _) (by decide) rfl (fun ls hl => ?_)
      refine lv_goto (tgt := 71) hx hb dX5_init_93 (by decide) ?_
      refine W.widen (k := 22 + 6 * (j + 1)) (n := 263 + 68 * (j + 1)) (show 22 + 6 * j + 1 + 5 ≤ _ from by omega) (show 263 + 68 * j + 8 + 60 ≤ _ from by omega) ?_
      exact ih (j + 1) u2 _ _ _ (by omega) (Ex.tr hE hE12 (fun _ h => LJ_L h)) hw hl
  exact key 8 0 u9 _ _ _ rfl (fun _ _ _ => rfl) (by rw [cJn_0 hc5]; exact hw) hl
