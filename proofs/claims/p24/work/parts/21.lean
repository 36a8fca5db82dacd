abbrev bw_X1_isIn : List Cond := .code yX1_isIn cX1_isIn 3 (some .boolean) :: BIG
abbrev rm_X1_isIn : Room := { frames := 1, cells := 0, slots := 0, locals := 21 }
noncomputable def sp_X1_isIn (S : (Nat → Nat → Nat → Int32)) (j : Nat) (p1 : Int32) (p2 : Int32) : Int32 := if p1 < 0 then (0) else (if 12 ≤ p1 then (0) else (if sp_X5_has (S 6 j 0) p1 = 0 then (0) else (if S 24 j p1.toNatClampNeg = p2 then (1) else (0))))
set_option maxHeartbeats 1000000 in
set_option maxRecDepth 100000 in
theorem ct_X1_isIn {l : Launch} {D : va_G} {cI cG cJ cO : ClassId} {K0 : Nat → Nat} {A : Nat → Prop} {L : List (Nat × Nat)} {ad : Nat → Nat → Nat} {ce : Nat → Nat → va_E} (hL : ∀ f o, cid f o = true → (f, o) ∈ L) (S : (Nat → Nat → Nat → Int32)) (hI : CI S) (j : Nat) (hj : j < 8) (p1 : Int32) (p2 : Int32) (sz : Nat) (hA : ∀ q, sz ≤ q → A q) : Met l yX1_isIn bw_X1_isIn rm_X1_isIn (kP D (ktys cI cG cJ cO) K0 A L ad (cK cI cJ ad ce S) sz [.ref (ad 6 j), .int p1, .int p2]) (kQi D A (sp_X1_isIn S j p1 p2) L ad (cK cI cJ ad ce S)) 0 0 A := by
  refine Met.ofW (cc := cX1_isIn) (maxL := 3) (ret := (some .boolean)) (by decide) rfl ?_
  intro p e s m args below meth c s₁ B hml hv
  obtain ⟨hav, hsz, hP, hD, hK, hO⟩ := hv
  have hx := B.exec
  have hb := B.bytes
  have hr := B.returns
  have hts : ∀ w ∈ BIG, w.before args s = true := fun w h => atoms_spec (ws := bw_X1_isIn) B.pre w (List.mem_cons_of_mem _ h)
  have hown : s.vm.findClass RX1 = some m.cls := findClass_of_methodNamed B.named
  have hlocks := B.notSynchronized
  subst hsz
  have hw := wk.start hP hD
  refine k_start (by rfl) hav (Nat.le_of_ble_eq_true rfl) (fun ls hl => ?_)
  have hl : lv_has ls 3 [(0, .ref (ad 6 j)), (1, .int p1), (2, .int p2)] := hl
  have hE : sp_X1_isIn S j p1 p2 = sp_X1_isIn S j p1 p2 := rfl
  refine lv_iload_n hx hb dX1_isIn_0 rfl (lv_at hl 1 rfl) ?_
  refine lv_if_lt (tgt := 35) hx hb dX1_isIn_1 (by decide) (fun c_1 => ?_) (fun c_1 => ?_)
  · have hE := hE.trans (if_pos c_1)
    refine lv_iconst (v := 0) hx hb dX1_isIn_35 (by decide) ?_
    exact k_iret hx hb hr hlocks rfl hw hE rfl dX1_isIn_36
  · have hE := hE.trans (if_neg c_1)
    refine lv_iload_n hx hb dX1_isIn_4 rfl (lv_at hl 1 rfl) ?_
    refine lv_bipush (v := 12) hx hb dX1_isIn_5 (by decide) ?_
    refine lv_icmp_ge (tgt := 35) hx hb dX1_isIn_7 (by decide) (fun c_2 => ?_) (fun c_2 => ?_)
    · have hE := hE.trans (if_pos c_2)
      refine lv_iconst (v := 0) hx hb dX1_isIn_35 (by decide) ?_
      exact k_iret hx hb hr hlocks rfl hw hE rfl dX1_isIn_36
    · have hE := hE.trans (if_neg c_2)
      refine lv_aload_n hx hb dX1_isIn_10 rfl (lv_at hl 0 rfl) ?_
      refine k_get (C := RX1) (T := TX1) (N := 8) (v := .int (S 6 j 0)) hx hb hts inB_X1 hown hK hw (hL 6 j (cidJ6 hj)) cke_6 rfl 5 (by decide) (hts _ w_f_X1_27) (fun _ h9 => h9) rfl dX1_isIn_11 ?_
      refine lv_iload_n hx hb dX1_isIn_14 rfl (lv_at hl 1 rfl) ?_
      refine k_ci0 hw (k_rSN (As := [.int (S 6 j 0), .int p1]) (rest := []) ⟨hx, hb, hml, hown, hts⟩ hK hO hw (ct_X5_has (S 6 j 0) p1 _ (wk.hA hw hA)) (⟨va_cnB 2 hts (gB_0 w_co_X5_has) rfl rfl rfl (hO.2.2.1 _ w_mn_X1_31) (hts _ w_in_X5) (by decide +kernel) ⟨by decide, by decide⟩, hts _ w_st_X5_has, trivial⟩) rfl hl.1 rfl (Nat.le_of_ble_eq_true rfl) dX1_isIn_15 ⟨Nat.le_of_ble_eq_true rfl, Nat.le_of_ble_eq_true rfl⟩) (fun H locs hw => ?_)
      refine lv_if_eq (tgt := 35) hx hb dX1_isIn_18 (by decide) (fun c_3 => ?_) (fun c_3 => ?_)
      · have hE := hE.trans (if_pos c_3)
        refine lv_iconst (v := 0) hx hb dX1_isIn_35 (by decide) ?_
        exact k_iret hx hb hr hlocks rfl hw hE rfl dX1_isIn_36
      · have hE := hE.trans (if_neg c_3)
        refine lv_aload_n hx hb dX1_isIn_21 rfl (lv_at hl 0 rfl) ?_
        refine k_get (C := RX1) (T := TX1) (N := 8) (v := .ref (ad 24 j)) hx hb hts inB_X1 hown hK hw (hL 6 j (cidJ6 hj)) cke_6 rfl 0 (by decide) (hts _ w_f_X1_9) (fun _ h9 => h9) rfl dX1_isIn_22 ?_
        refine lv_iload_n hx hb dX1_isIn_25 rfl (lv_at hl 1 rfl) ?_
        refine k_ald hx hb hK hw (hL 24 j (cidJ24 hj)) 0 cke_24 rfl (k_in c_1 c_2 (by decide)) dX1_isIn_26 ?_
        refine lv_iload_n hx hb dX1_isIn_27 rfl (lv_at hl 2 rfl) ?_
        refine lv_icmp_ne (tgt := 35) hx hb dX1_isIn_28 (by decide) (fun c_4 => ?_) (fun c_4 => ?_)
        · have hE := hE.trans (if_neg c_4)
          refine lv_iconst (v := 0) hx hb dX1_isIn_35 (by decide) ?_
          exact k_iret hx hb hr hlocks rfl hw hE rfl dX1_isIn_36
        · have hE := hE.trans (if_pos c_4)
          refine lv_iconst (v := 1) hx hb dX1_isIn_31 (by decide) ?_
          refine lv_goto (tgt := 36) hx hb dX1_isIn_32 (by decide) ?_
          exact k_iret hx hb hr hlocks rfl hw hE rfl dX1_isIn_36

theorem bz_X1_isIn (S : (Nat → Nat → Nat → Int32)) (j : Nat) (p1 : Int32) (p2 : Int32) : sp_X1_isIn S j p1 p2 = 0 ∨ sp_X1_isIn S j p1 p2 = 1 := by
  unfold sp_X1_isIn
  repeat' split
  all_goals first | exact Or.inl rfl | exact Or.inr rfl | exact bz_X5_has _ _ | exact bz_X5_isWithin _ _ _ | exact bz_X5_isOfKind _ _ | skip

abbrev bw_X1_stepsIn : List Cond := .code yX1_stepsIn cX1_stepsIn 4 (some .int) :: BIG
abbrev rm_X1_stepsIn : Room := { frames := 0, cells := 0, slots := 0, locals := 0 }
noncomputable def lp_X1_stepsIn_4 (S : (Nat → Nat → Nat → Int32)) (j : Nat) (p1 : Int32) : Nat → Nat → Int32 → Int32
  | 0, i, v2 => (v2)
  | k + 1, i, v2 => if S 24 j i = p1 then (lp_X1_stepsIn_4 S j p1 k (i + 1) (v2 ||| (1 <<< ((nI i) &&& 31)))) else (lp_X1_stepsIn_4 S j p1 k (i + 1) v2)
theorem lz_lp_X1_stepsIn_4 (S : (Nat → Nat → Nat → Int32)) (j : Nat) (p1 : Int32) (i : Nat) (v2 : Int32) : lp_X1_stepsIn_4 S j p1 0 i v2 = (v2) := rfl
noncomputable def sp_X1_stepsIn (S : (Nat → Nat → Nat → Int32)) (j : Nat) (p1 : Int32) : Int32 := (lp_X1_stepsIn_4 S j p1 12 0 0) &&& (S 6 j 0)
set_option maxHeartbeats 1000000 in
set_option maxRecDepth 100000 in
theorem ct_X1_stepsIn {l : Launch} {D : va_G} {cI cG cJ cO : ClassId} {K0 : Nat → Nat} {A : Nat → Prop} {L : List (Nat × Nat)} {ad : Nat → Nat → Nat} {ce : Nat → Nat → va_E} (hL : ∀ f o, cid f o = true → (f, o) ∈ L) (S : (Nat → Nat → Nat → Int32)) (hI : CI S) (j : Nat) (hj : j < 8) (p1 : Int32) (sz : Nat) (hA : ∀ q, sz ≤ q → A q) : Met l yX1_stepsIn bw_X1_stepsIn rm_X1_stepsIn (kP D (ktys cI cG cJ cO) K0 A L ad (cK cI cJ ad ce S) sz [.ref (ad 6 j), .int p1]) (kQi D A (sp_X1_stepsIn S j p1) L ad (cK cI cJ ad ce S)) 0 0 A := by
  refine Met.ofW (cc := cX1_stepsIn) (maxL := 4) (ret := (some .int)) (by decide) rfl ?_
  intro p e s m args below meth c s₁ B hml hv
  obtain ⟨hav, hsz, hP, hD, hK, hO⟩ := hv
  have hx := B.exec
  have hb := B.bytes
  have hr := B.returns
  have hts : ∀ w ∈ BIG, w.before args s = true := fun w h => atoms_spec (ws := bw_X1_stepsIn) B.pre w (List.mem_cons_of_mem _ h)
  have hown : s.vm.findClass RX1 = some m.cls := findClass_of_methodNamed B.named
  have hlocks := B.notSynchronized
  subst hsz
  have hw := wk.start hP hD
  refine k_start (by rfl) hav (Nat.le_of_ble_eq_true rfl) (fun ls hl => ?_)
  have hl : lv_has ls 4 [(0, .ref (ad 6 j)), (1, .int p1)] := hl
  have hE : sp_X1_stepsIn S j p1 = (lp_X1_stepsIn_4 S j p1 12 0 0) &&& (S 6 j 0) := by unfold sp_X1_stepsIn; rfl
  refine lv_iconst (v := 0) hx hb dX1_stepsIn_0 (by decide) ?_
  refine lv_istore_n (lv' := [(2, .int 0), (0, .ref (ad 6 j)), (1, .int p1)]) hx hb dX1_stepsIn_1 rfl hl (by decide) rfl (fun ls hl => ?_)
  refine lv_iconst (v := 0) hx hb dX1_stepsIn_2 (by decide) ?_
  refine lv_istore_n (lv' := [(3, .int 0), (2, .int 0), (0, .ref (ad 6 j)), (1, .int p1)]) hx hb dX1_stepsIn_3 rfl hl (by decide) rfl (fun ls hl => ?_)
  have key_4 : ∀ (k i : Nat) (v2 : Int32) (H : Heap) (locs : List Loc) (ls : Array Slot), i + k = 12 → (lp_X1_stepsIn_4 S j p1 12 0 0) = lp_X1_stepsIn_4 S j p1 k i v2 → wk D A L ad (cK cI cJ ad ce S) s.heap H locs → lv_has ls 4 [(0, .ref (ad 6 j)), (1, .int p1), (2, .int v2), (3, .int (nI i))] → W p l e (headSpec bw_X1_stepsIn rm_X1_stepsIn).room s m args below meth c H locs 0 0 (MQ below (kQi D A (sp_X1_stepsIn S j p1) L ad (cK cI cJ ad ce S)) args s 0 0 A) (F0 m 4 ls []) := by
    intro k
    induction k with
    | zero =>
      intro i v2 H locs ls hk hV hw hl
      have hV := hV.trans (lz_lp_X1_stepsIn_4 S j p1 i v2)
      obtain rfl : v2 = (lp_X1_stepsIn_4 S j p1 12 0 0) := hV.symm
      refine lv_iload_n hx hb dX1_stepsIn_4 rfl (lv_at hl 3 rfl) ?_
      refine lv_bipush (v := 12) hx hb dX1_stepsIn_5 (by decide) ?_
      refine lv_icmp_ge (tgt := 32) hx hb dX1_stepsIn_7 (by decide) (fun _ => ?_) (fun h => absurd (lp_o rfl hk (by decide)) h)
      refine lv_iload_n hx hb dX1_stepsIn_32 rfl (lv_at hl 2 rfl) ?_
      refine lv_aload_n hx hb dX1_stepsIn_33 rfl (lv_at hl 0 rfl) ?_
      refine k_get (C := RX1) (T := TX1) (N := 8) (v := .int (S 6 j 0)) hx hb hts inB_X1 hown hK hw (hL 6 j (cidJ6 hj)) cke_6 rfl 5 (by decide) (hts _ w_f_X1_27) (fun _ h9 => h9) rfl dX1_stepsIn_34 ?_
      refine lv_iand hx hb dX1_stepsIn_37 ?_
      exact k_iret hx hb hr hlocks rfl hw hE rfl dX1_stepsIn_38
    | succ k ih =>
      intro i v2 H locs ls hk hV hw hl
      refine lv_iload_n hx hb dX1_stepsIn_4 rfl (lv_at hl 3 rfl) ?_
      refine lv_bipush (v := 12) hx hb dX1_stepsIn_5 (by decide) ?_
      refine lv_icmp_ge (tgt := 32) hx hb dX1_stepsIn_7 (by decide) (fun h => absurd h (lp_i rfl hk (by decide))) (fun _ => ?_)
      refine lv_aload_n hx hb dX1_stepsIn_10 rfl (lv_at hl 0 rfl) ?_
      refine k_get (C := RX1) (T := TX1) (N := 8) (v := .ref (ad 24 j)) hx hb hts inB_X1 hown hK hw (hL 6 j (cidJ6 hj)) cke_6 rfl 0 (by decide) (hts _ w_f_X1_9) (fun _ h9 => h9) rfl dX1_stepsIn_11 ?_
      refine lv_iload_n hx hb dX1_stepsIn_14 rfl (lv_at hl 3 rfl) ?_
      refine k_aldn hx hb hK hw (hL 24 j (cidJ24 hj)) 0 cke_24 rfl (lp_l hk) (by decide) dX1_stepsIn_15 ?_
      refine lv_iload_n hx hb dX1_stepsIn_16 rfl (lv_at hl 1 rfl) ?_
      refine lv_icmp_ne (tgt := 26) hx hb dX1_stepsIn_17 (by decide) (fun c_1 => ?_) (fun c_1 => ?_)
      · have hV := hV.trans (if_neg c_1)
        refine lv_iinc (v := (nI (i + 1))) (lv' := [(3, .int (nI (i + 1))), (0, .ref (ad 6 j)), (1, .int p1), (2, .int v2)]) hx hb dX1_stepsIn_26 hl (k := 3) rfl (nI_1 _) (by decide) rfl (fun ls hl => ?_)
        refine lv_goto (tgt := 4) hx hb dX1_stepsIn_29 (by decide) ?_
        exact ih (i + 1) v2 _ _ _ (lp_s hk) hV hw (lv_sub hl [1, 2, 3, 0] rfl)
      · have hV := hV.trans (if_pos c_1)
        refine lv_iload_n hx hb dX1_stepsIn_20 rfl (lv_at hl 2 rfl) ?_
        refine lv_iconst (v := 1) hx hb dX1_stepsIn_21 (by decide) ?_
        refine lv_iload_n hx hb dX1_stepsIn_22 rfl (lv_at hl 3 rfl) ?_
        refine lv_ishl hx hb dX1_stepsIn_23 ?_
        refine lv_ior hx hb dX1_stepsIn_24 ?_
        refine lv_istore_n (lv' := [(2, .int (v2 ||| (1 <<< ((nI i) &&& 31)))), (0, .ref (ad 6 j)), (1, .int p1), (3, .int (nI i))]) hx hb dX1_stepsIn_25 rfl hl (by decide) rfl (fun ls hl => ?_)
        refine lv_iinc (v := (nI (i + 1))) (lv' := [(3, .int (nI (i + 1))), (2, .int (v2 ||| (1 <<< ((nI i) &&& 31)))), (0, .ref (ad 6 j)), (1, .int p1)]) hx hb dX1_stepsIn_26 hl (k := 3) rfl (nI_1 _) (by decide) rfl (fun ls hl => ?_)
        refine lv_goto (tgt := 4) hx hb dX1_stepsIn_29 (by decide) ?_
        exact ih (i + 1) (v2 ||| (1 <<< ((nI i) &&& 31))) _ _ _ (lp_s hk) hV hw (lv_sub hl [2, 3, 1, 0] rfl)
  exact key_4 12 0 0 _ _ _ (Nat.zero_add _) rfl hw (lv_sub hl [2, 3, 1, 0] rfl)

abbrev bw_X1_countIn : List Cond := .code yX1_countIn cX1_countIn 2 (some .int) :: BIG
abbrev rm_X1_countIn : Room := { frames := 1, cells := 0, slots := 0, locals := 23 }
noncomputable def sp_X1_countIn (S : (Nat → Nat → Nat → Int32)) (j : Nat) (p1 : Int32) : Int32 := sp_J6_bitCount_0f7a4 (sp_X1_stepsIn S j p1)
set_option maxHeartbeats 1000000 in
set_option maxRecDepth 100000 in
theorem ct_X1_countIn {l : Launch} {D : va_G} {cI cG cJ cO : ClassId} {K0 : Nat → Nat} {A : Nat → Prop} {L : List (Nat × Nat)} {ad : Nat → Nat → Nat} {ce : Nat → Nat → va_E} (hL : ∀ f o, cid f o = true → (f, o) ∈ L) (S : (Nat → Nat → Nat → Int32)) (hI : CI S) (j : Nat) (hj : j < 8) (p1 : Int32) (sz : Nat) (hA : ∀ q, sz ≤ q → A q) : Met l yX1_countIn bw_X1_countIn rm_X1_countIn (kP D (ktys cI cG cJ cO) K0 A L ad (cK cI cJ ad ce S) sz [.ref (ad 6 j), .int p1]) (kQi D A (sp_X1_countIn S j p1) L ad (cK cI cJ ad ce S)) 0 0 A := by
  refine Met.ofW (cc := cX1_countIn) (maxL := 2) (ret := (some .int)) (by decide) rfl ?_
  intro p e s m args below meth c s₁ B hml hv
  obtain ⟨hav, hsz, hP, hD, hK, hO⟩ := hv
  have hx := B.exec
  have hb := B.bytes
  have hr := B.returns
  have hts : ∀ w ∈ BIG, w.before args s = true := fun w h => atoms_spec (ws := bw_X1_countIn) B.pre w (List.mem_cons_of_mem _ h)
  have hown : s.vm.findClass RX1 = some m.cls := findClass_of_methodNamed B.named
  have hlocks := B.notSynchronized
  subst hsz
  have hw := wk.start hP hD
  refine k_start (by rfl) hav (Nat.le_of_ble_eq_true rfl) (fun ls hl => ?_)
  have hl : lv_has ls 2 [(0, .ref (ad 6 j)), (1, .int p1)] := hl
  have hE : sp_X1_countIn S j p1 = sp_J6_bitCount_0f7a4 (sp_X1_stepsIn S j p1) := by unfold sp_X1_countIn; rfl
  refine lv_aload_n hx hb dX1_countIn_0 rfl (lv_at hl 0 rfl) ?_
  refine lv_iload_n hx hb dX1_countIn_1 rfl (lv_at hl 1 rfl) ?_
  refine k_ci0 hw (k_rV (As := [.int p1]) (rest := []) ⟨hx, hb, hml, hown, hts⟩ hK hO hw (ct_X1_stepsIn hL S (SF.ci (SF.rf _) hI) j hj p1 _ (wk.hA hw hA)) (cwV 1 hts (gB_V w_ml_X1_35 w_im_X1_stepsIn w_se_X1_stepsIn w_in_X1 w_co_X1_stepsIn) rfl rfl rfl (by decide +kernel) ⟨by decide, by decide⟩) (hL 6 j (cidJ6 hj)) cke_6 rfl rfl hl.1 rfl (Nat.le_of_ble_eq_true rfl) dX1_countIn_2 ⟨Nat.le_of_ble_eq_true rfl, Nat.le_of_ble_eq_true rfl⟩) (fun H locs hw => ?_)
  refine k_ci0 hw (k_rS (As := [.int (sp_X1_stepsIn S j p1)]) (rest := []) ⟨hx, hb, hml, hown, hts⟩ hK hO hw (ct_J6_bitCount_0f7a4 (sp_X1_stepsIn S j p1) _ (wk.hA hw hA)) (va_cwS 1 hts (gB_S w_ml_X1_39 w_st_J6_bitCount_0f7a4 w_in_J6 w_co_J6_bitCount_0f7a4) rfl rfl rfl (by decide +kernel) ⟨by decide, by decide⟩) rfl hl.1 rfl (Nat.le_of_ble_eq_true rfl) dX1_countIn_5 ⟨Nat.le_of_ble_eq_true rfl, Nat.le_of_ble_eq_true rfl⟩) (fun H locs hw => ?_)
  exact k_iret hx hb hr hlocks rfl hw hE rfl dX1_countIn_8

abbrev bw_X1_finishSteps : List Cond := .code yX1_finishSteps cX1_finishSteps 4 (some .int) :: BIG
abbrev rm_X1_finishSteps : Room := { frames := 0, cells := 0, slots := 0, locals := 0 }
noncomputable def lp_X1_finishSteps_13 (j : Nat) (p1 : Int32) : Nat → Nat → Int32 → (Nat → Nat → Nat → Int32) → Int32 × (Nat → Nat → Nat → Int32)
  | 0, i, v2, Sx => (v2, Sx)
  | k + 1, i, v2, Sx => if Sx 24 j i = 1 then (if p1 < (Sx 25 j i) + (Sx 26 j i) then (lp_X1_finishSteps_13 j p1 k (i + 1) v2 Sx) else (lp_X1_finishSteps_13 j p1 k (i + 1) (v2 + 1) (up3 Sx 24 j i 2))) else (lp_X1_finishSteps_13 j p1 k (i + 1) v2 Sx)
theorem lz_lp_X1_finishSteps_13 (j : Nat) (p1 : Int32) (i : Nat) (v2 : Int32) (Sx : (Nat → Nat → Nat → Int32)) : lp_X1_finishSteps_13 j p1 0 i v2 Sx = (v2, Sx) := rfl
theorem sfl_lp_X1_finishSteps_13 (j : Nat) (p1 : Int32) : ∀ (k i : Nat) (v2 : Int32) (Sx T : (Nat → Nat → Nat → Int32)), SF T Sx → SF T ((lp_X1_finishSteps_13 j p1 k i v2 Sx).2) := by
  intro k
  induction k with
  | zero => intro i v2 Sx T h; exact h
  | succ k ih => 
    intro i v2 Sx T h
    unfold lp_X1_finishSteps_13
    by_cases q_4 : Sx 24 j i = 1
    · rw [if_pos q_4]
      by_cases q_5 : p1 < (Sx 25 j i) + (Sx 26 j i)
      · rw [if_pos q_5]
        exact ih (i + 1) v2 Sx T h
      · rw [if_neg q_5]
        exact ih (i + 1) (v2 + 1) (up3 Sx 24 j i 2) T (SF.up (by decide) h)
    · rw [if_neg q_4]
      exact ih (i + 1) v2 Sx T h

noncomputable def rw_X1_finishSteps (S : (Nat → Nat → Nat → Int32)) (j : Nat) (p1 : Int32) : Int32 × (Nat → Nat → Nat → Int32) := if S 6 j 2 = 0 then (((lp_X1_finishSteps_13 j p1 12 0 0 S).1, (lp_X1_finishSteps_13 j p1 12 0 0 S).2)) else ((0, S))
/-- sealed: it unfolds by un_ alone -/
noncomputable def sp_X1_finishSteps : (Nat → Nat → Nat → Int32) → Nat → Int32 → (Int32 × (Nat → Nat → Nat → Int32)) := Classical.choose (⟨rw_X1_finishSteps, rfl⟩ : ∃ f, f = rw_X1_finishSteps)
theorem un_X1_finishSteps (S : (Nat → Nat → Nat → Int32)) (j : Nat) (p1 : Int32) : sp_X1_finishSteps S j p1 = rw_X1_finishSteps S j p1 := (congrFun (congrFun (congrFun (Classical.choose_spec (⟨rw_X1_finishSteps, rfl⟩ : ∃ f, f = rw_X1_finishSteps)) S) j) p1)
theorem sf_X1_finishSteps (S : (Nat → Nat → Nat → Int32)) (j : Nat) (p1 : Int32) : SF S (sp_X1_finishSteps S j p1).2 := by
  rw [un_X1_finishSteps]
  unfold rw_X1_finishSteps
  by_cases q_6 : S 6 j 2 = 0
  · rw [if_pos q_6]
    exact (sfl_lp_X1_finishSteps_13 j p1 12 0 0 S _ (SF.rf _))
  · rw [if_neg q_6]
    exact (SF.rf _)

set_option maxHeartbeats 1000000 in
set_option maxRecDepth 100000 in
theorem ct_X1_finishSteps {l : Launch} {D : va_G} {cI cG cJ cO : ClassId} {K0 : Nat → Nat} {A : Nat → Prop} {L : List (Nat × Nat)} {ad : Nat → Nat → Nat} {ce : Nat → Nat → va_E} (hL : ∀ f o, cid f o = true → (f, o) ∈ L) (S : (Nat → Nat → Nat → Int32)) (hI : CI S) (j : Nat) (hj : j < 8) (p1 : Int32) (sz : Nat) (hA : ∀ q, sz ≤ q → A q) : Met l yX1_finishSteps bw_X1_finishSteps rm_X1_finishSteps (kP D (ktys cI cG cJ cO) K0 A L ad (cK cI cJ ad ce S) sz [.ref (ad 6 j), .int p1]) (kQi D A (sp_X1_finishSteps S j p1).1 L ad (cK cI cJ ad ce (sp_X1_finishSteps S j p1).2)) 0 0 A := by
  refine Met.ofW (cc := cX1_finishSteps) (maxL := 4) (ret := (some .int)) (by decide) rfl ?_
  intro p e s m args below meth c s₁ B hml hv
  obtain ⟨hav, hsz, hP, hD, hK, hO⟩ := hv
  have hx := B.exec
  have hb := B.bytes
  have hr := B.returns
  have hts : ∀ w ∈ BIG, w.before args s = true := fun w h => atoms_spec (ws := bw_X1_finishSteps) B.pre w (List.mem_cons_of_mem _ h)
  have hown : s.vm.findClass RX1 = some m.cls := findClass_of_methodNamed B.named
  have hlocks := B.notSynchronized
  subst hsz
  have hw := wk.start hP hD
  refine k_start (by rfl) hav (Nat.le_of_ble_eq_true rfl) (fun ls hl => ?_)
  have hl : lv_has ls 4 [(0, .ref (ad 6 j)), (1, .int p1)] := hl
  have hE : sp_X1_finishSteps S j p1 = rw_X1_finishSteps S j p1 := un_X1_finishSteps S j p1
  refine lv_aload_n hx hb dX1_finishSteps_0 rfl (lv_at hl 0 rfl) ?_
  refine k_get (C := RX1) (T := TX1) (N := 8) (v := .int (S 6 j 2)) hx hb hts inB_X1 hown hK hw (hL 6 j (cidJ6 hj)) cke_6 rfl 7 (by decide) (hts _ w_f_X1_44) (fun _ h9 => h9) rfl dX1_finishSteps_1 ?_
  refine lv_if_eq (tgt := 9) hx hb dX1_finishSteps_4 (by decide) (fun c_1 => ?_) (fun c_1 => ?_)
  · have hE := hE.trans (if_pos c_1)
    refine lv_iconst (v := 0) hx hb dX1_finishSteps_9 (by decide) ?_
    refine lv_istore_n (lv' := [(2, .int 0), (0, .ref (ad 6 j)), (1, .int p1)]) hx hb dX1_finishSteps_10 rfl hl (by decide) rfl (fun ls hl => ?_)
    refine lv_iconst (v := 0) hx hb dX1_finishSteps_11 (by decide) ?_
    refine lv_istore_n (lv' := [(3, .int 0), (2, .int 0), (0, .ref (ad 6 j)), (1, .int p1)]) hx hb dX1_finishSteps_12 rfl hl (by decide) rfl (fun ls hl => ?_)
    have key_13 : ∀ (k i : Nat) (v2 : Int32) (Sx : (Nat → Nat → Nat → Int32)) (H : Heap) (locs : List Loc) (ls : Array Slot), i + k = 12 → SF S Sx → (lp_X1_finishSteps_13 j p1 12 0 0 S) = lp_X1_finishSteps_13 j p1 k i v2 Sx → wk D A L ad (cK cI cJ ad ce Sx) s.heap H locs → lv_has ls 4 [(0, .ref (ad 6 j)), (1, .int p1), (2, .int v2), (3, .int (nI i))] → W p l e (headSpec bw_X1_finishSteps rm_X1_finishSteps).room s m args below meth c H locs 0 0 (MQ below (kQi D A (sp_X1_finishSteps S j p1).1 L ad (cK cI cJ ad ce (sp_X1_finishSteps S j p1).2)) args s 0 0 A) (F0 m 13 ls []) := by
      intro k
      induction k with
      | zero =>
        intro i v2 Sx H locs ls hk hsf hV hw hl
        have hV := hV.trans (lz_lp_X1_finishSteps_13 j p1 i v2 Sx)
        obtain rfl : v2 = (lp_X1_finishSteps_13 j p1 12 0 0 S).1 := (congrArg (fun z => z.1) hV).symm
        obtain rfl : Sx = (lp_X1_finishSteps_13 j p1 12 0 0 S).2 := (congrArg (fun z => z.2) hV).symm
        refine lv_iload_n hx hb dX1_finishSteps_13 rfl (lv_at hl 3 rfl) ?_
        refine lv_bipush (v := 12) hx hb dX1_finishSteps_14 (by decide) ?_
        refine lv_icmp_ge (tgt := 62) hx hb dX1_finishSteps_16 (by decide) (fun _ => ?_) (fun h => absurd (lp_o rfl hk (by decide)) h)
        refine lv_iload_n hx hb dX1_finishSteps_62 rfl (lv_at hl 2 rfl) ?_
        exact k_iretE hx hb hr hlocks rfl hw hE dX1_finishSteps_63
      | succ k ih =>
        intro i v2 Sx H locs ls hk hsf hV hw hl
        refine lv_iload_n hx hb dX1_finishSteps_13 rfl (lv_at hl 3 rfl) ?_
        refine lv_bipush (v := 12) hx hb dX1_finishSteps_14 (by decide) ?_
        refine lv_icmp_ge (tgt := 62) hx hb dX1_finishSteps_16 (by decide) (fun h => absurd h (lp_i rfl hk (by decide))) (fun _ => ?_)
        refine lv_aload_n hx hb dX1_finishSteps_19 rfl (lv_at hl 0 rfl) ?_
        refine k_get (C := RX1) (T := TX1) (N := 8) (v := .ref (ad 24 j)) hx hb hts inB_X1 hown hK hw (hL 6 j (cidJ6 hj)) cke_6 rfl 0 (by decide) (hts _ w_f_X1_9) (fun _ h9 => h9) rfl dX1_finishSteps_20 ?_
        refine lv_iload_n hx hb dX1_finishSteps_23 rfl (lv_at hl 3 rfl) ?_
        refine k_aldn hx hb hK hw (hL 24 j (cidJ24 hj)) 0 cke_24 rfl (lp_l hk) (by decide) dX1_finishSteps_24 ?_
        refine lv_iconst (v := 1) hx hb dX1_finishSteps_25 (by decide) ?_
        refine lv_icmp_ne (tgt := 56) hx hb dX1_finishSteps_26 (by decide) (fun c_2 => ?_) (fun c_2 => ?_)
        · have hV := hV.trans (if_neg c_2)
          refine lv_iinc (v := (nI (i + 1))) (lv' := [(3, .int (nI (i + 1))), (0, .ref (ad 6 j)), (1, .int p1), (2, .int v2)]) hx hb dX1_finishSteps_56 hl (k := 3) rfl (nI_1 _) (by decide) rfl (fun ls hl => ?_)
          refine lv_goto (tgt := 13) hx hb dX1_finishSteps_59 (by decide) ?_
          exact ih (i + 1) v2 Sx _ _ _ (lp_s hk) hsf hV hw (lv_sub hl [1, 2, 3, 0] rfl)
        · have hV := hV.trans (if_pos c_2)
          refine lv_aload_n hx hb dX1_finishSteps_29 rfl (lv_at hl 0 rfl) ?_
          refine k_get (C := RX1) (T := TX1) (N := 8) (v := .ref (ad 25 j)) hx hb hts inB_X1 hown hK hw (hL 6 j (cidJ6 hj)) cke_6 rfl 1 (by decide) (hts _ w_f_X1_15) (fun _ h9 => h9) rfl dX1_finishSteps_30 ?_
          refine lv_iload_n hx hb dX1_finishSteps_33 rfl (lv_at hl 3 rfl) ?_
          refine k_aldn hx hb hK hw (hL 25 j (cidJ25 hj)) 0 cke_25 rfl (lp_l hk) (by decide) dX1_finishSteps_34 ?_
          refine lv_aload_n hx hb dX1_finishSteps_35 rfl (lv_at hl 0 rfl) ?_
          refine k_get (C := RX1) (T := TX1) (N := 8) (v := .ref (ad 26 j)) hx hb hts inB_X1 hown hK hw (hL 6 j (cidJ6 hj)) cke_6 rfl 2 (by decide) (hts _ w_f_X1_18) (fun _ h9 => h9) rfl dX1_finishSteps_36 ?_
          refine lv_iload_n hx hb dX1_finishSteps_39 rfl (lv_at hl 3 rfl) ?_
          refine k_aldn hx hb hK hw (hL 26 j (cidJ26 hj)) 0 cke_26 rfl (lp_l hk) (by decide) dX1_finishSteps_40 ?_
          refine lv_iadd hx hb dX1_finishSteps_41 ?_
          refine lv_iload_n hx hb dX1_finishSteps_42 rfl (lv_at hl 1 rfl) ?_
          refine lv_icmp_gt (tgt := 56) hx hb dX1_finishSteps_43 (by decide) (fun c_3 => ?_) (fun c_3 => ?_)
          · have hV := hV.trans (if_pos c_3)
            refine lv_iinc (v := (nI (i + 1))) (lv' := [(3, .int (nI (i + 1))), (0, .ref (ad 6 j)), (1, .int p1), (2, .int v2)]) hx hb dX1_finishSteps_56 hl (k := 3) rfl (nI_1 _) (by decide) rfl (fun ls hl => ?_)
            refine lv_goto (tgt := 13) hx hb dX1_finishSteps_59 (by decide) ?_
            exact ih (i + 1) v2 Sx _ _ _ (lp_s hk) hsf hV hw (lv_sub hl [1, 2, 3, 0] rfl)
          · have hV := hV.trans (if_neg c_3)
            refine lv_aload_n hx hb dX1_finishSteps_46 rfl (lv_at hl 0 rfl) ?_
            refine k_get (C := RX1) (T := TX1) (N := 8) (v := .ref (ad 24 j)) hx hb hts inB_X1 hown hK hw (hL 6 j (cidJ6 hj)) cke_6 rfl 0 (by decide) (hts _ w_f_X1_9) (fun _ h9 => h9) rfl dX1_finishSteps_47 ?_
            refine lv_iload_n hx hb dX1_finishSteps_50 rfl (lv_at hl 3 rfl) ?_
            refine lv_iconst (v := 2) hx hb dX1_finishSteps_51 (by decide) ?_
            refine k_astn hx hb hK hw (hL 24 j (cidJ24 hj)) 0 cke_24 rfl (lp_l hk) (by decide) (cK_up (i := i) (x := 2) (by decide) rfl) dX1_finishSteps_52 (fun H locs hw => ?_)
            refine lv_iinc (v := (v2 + 1)) (lv' := [(2, .int (v2 + 1)), (0, .ref (ad 6 j)), (1, .int p1), (3, .int (nI i))]) hx hb dX1_finishSteps_53 hl (k := 2) rfl rfl (by decide) rfl (fun ls hl => ?_)
            refine lv_iinc (v := (nI (i + 1))) (lv' := [(3, .int (nI (i + 1))), (2, .int (v2 + 1)), (0, .ref (ad 6 j)), (1, .int p1)]) hx hb dX1_finishSteps_56 hl (k := 3) rfl (nI_1 _) (by decide) rfl (fun ls hl => ?_)
            refine lv_goto (tgt := 13) hx hb dX1_finishSteps_59 (by decide) ?_
            exact ih (i + 1) (v2 + 1) (up3 Sx 24 j i 2) _ _ _ (lp_s hk) (SF.up (by decide) hsf) hV hw (lv_sub hl [2, 3, 1, 0] rfl)
    exact key_13 12 0 0 S _ _ _ (Nat.zero_add _) (SF.rf _) rfl hw (lv_sub hl [2, 3, 1, 0] rfl)
  · have hE := hE.trans (if_neg c_1)
    refine lv_iconst (v := 0) hx hb dX1_finishSteps_7 (by decide) ?_
    exact k_iretE hx hb hr hlocks rfl hw hE dX1_finishSteps_8

abbrev bw_X1_lastBegun : List Cond := .code yX1_lastBegun cX1_lastBegun 5 (some .int) :: BIG
abbrev rm_X1_lastBegun : Room := { frames := 0, cells := 0, slots := 0, locals := 0 }
noncomputable def lp_X1_lastBegun_6 (S : (Nat → Nat → Nat → Int32)) (j : Nat) : Nat → Nat → Int32 → Int32 → Int32 × Int32
  | 0, i, v1, v2 => (v1, v2)
  | k + 1, i, v1, v2 => if S 24 j i = 1 then (if S 25 j i < v2 then (lp_X1_lastBegun_6 S j k (i + 1) v1 v2) else (lp_X1_lastBegun_6 S j k (i + 1) (nI i) (S 25 j i))) else (if S 24 j i = 2 then (if S 25 j i < v2 then (lp_X1_lastBegun_6 S j k (i + 1) v1 v2) else (lp_X1_lastBegun_6 S j k (i + 1) (nI i) (S 25 j i))) else (lp_X1_lastBegun_6 S j k (i + 1) v1 v2))
theorem lz_lp_X1_lastBegun_6 (S : (Nat → Nat → Nat → Int32)) (j : Nat) (i : Nat) (v1 : Int32) (v2 : Int32) : lp_X1_lastBegun_6 S j 0 i v1 v2 = (v1, v2) := rfl
noncomputable def sp_X1_lastBegun (S : (Nat → Nat → Nat → Int32)) (j : Nat) : Int32 := (lp_X1_lastBegun_6 S j 12 0 (-1) (-1)).1
set_option maxHeartbeats 1000000 in
set_option maxRecDepth 100000 in
theorem ct_X1_lastBegun {l : Launch} {D : va_G} {cI cG cJ cO : ClassId} {K0 : Nat → Nat} {A : Nat → Prop} {L : List (Nat × Nat)} {ad : Nat → Nat → Nat} {ce : Nat → Nat → va_E} (hL : ∀ f o, cid f o = true → (f, o) ∈ L) (S : (Nat → Nat → Nat → Int32)) (hI : CI S) (j : Nat) (hj : j < 8) (sz : Nat) (hA : ∀ q, sz ≤ q → A q) : Met l yX1_lastBegun bw_X1_lastBegun rm_X1_lastBegun (kP D (ktys cI cG cJ cO) K0 A L ad (cK cI cJ ad ce S) sz [.ref (ad 6 j)]) (kQi D A (sp_X1_lastBegun S j) L ad (cK cI cJ ad ce S)) 0 0 A := by
  refine Met.ofW (cc := cX1_lastBegun) (maxL := 5) (ret := (some .int)) (by decide) rfl ?_
  intro p e s m args below meth c s₁ B hml hv
  obtain ⟨hav, hsz, hP, hD, hK, hO⟩ := hv
  have hx := B.exec
  have hb := B.bytes
  have hr := B.returns
  have hts : ∀ w ∈ BIG, w.before args s = true := fun w h => atoms_spec (ws := bw_X1_lastBegun) B.pre w (List.mem_cons_of_mem _ h)
  have hown : s.vm.findClass RX1 = some m.cls := findClass_of_methodNamed B.named
  have hlocks := B.notSynchronized
  subst hsz
  have hw := wk.start hP hD
  refine k_start (by rfl) hav (Nat.le_of_ble_eq_true rfl) (fun ls hl => ?_)
  have hl : lv_has ls 5 [(0, .ref (ad 6 j))] := hl
  have hE : sp_X1_lastBegun S j = (lp_X1_lastBegun_6 S j 12 0 (-1) (-1)).1 := by unfold sp_X1_lastBegun; rfl
  refine lv_iconst (v := (-1)) hx hb dX1_lastBegun_0 (by decide) ?_
  refine lv_istore_n (lv' := [(1, .int (-1)), (0, .ref (ad 6 j))]) hx hb dX1_lastBegun_1 rfl hl (by decide) rfl (fun ls hl => ?_)
  refine lv_iconst (v := (-1)) hx hb dX1_lastBegun_2 (by decide) ?_
  refine lv_istore_n (lv' := [(2, .int (-1)), (1, .int (-1)), (0, .ref (ad 6 j))]) hx hb dX1_lastBegun_3 rfl hl (by decide) rfl (fun ls hl => ?_)
  refine lv_iconst (v := 0) hx hb dX1_lastBegun_4 (by decide) ?_
  refine lv_istore_n (lv' := [(3, .int 0), (2, .int (-1)), (1, .int (-1)), (0, .ref (ad 6 j))]) hx hb dX1_lastBegun_5 rfl hl (by decide) rfl (fun ls hl => ?_)
  have key_6 : ∀ (k i : Nat) (v1 : Int32) (v2 : Int32) (H : Heap) (locs : List Loc) (ls : Array Slot), i + k = 12 → (lp_X1_lastBegun_6 S j 12 0 (-1) (-1)) = lp_X1_lastBegun_6 S j k i v1 v2 → wk D A L ad (cK cI cJ ad ce S) s.heap H locs → lv_has ls 5 [(0, .ref (ad 6 j)), (1, .int v1), (2, .int v2), (3, .int (nI i))] → W p l e (headSpec bw_X1_lastBegun rm_X1_lastBegun).room s m args below meth c H locs 0 0 (MQ below (kQi D A (sp_X1_lastBegun S j) L ad (cK cI cJ ad ce S)) args s 0 0 A) (F0 m 6 ls []) := by
    intro k
    induction k with
    | zero =>
      intro i v1 v2 H locs ls hk hV hw hl
      have hV := hV.trans (lz_lp_X1_lastBegun_6 S j i v1 v2)
      obtain rfl : v1 = (lp_X1_lastBegun_6 S j 12 0 (-1) (-1)).1 := (congrArg (fun z => z.1) hV).symm
      obtain rfl : v2 = (lp_X1_lastBegun_6 S j 12 0 (-1) (-1)).2 := (congrArg (fun z => z.2) hV).symm
      refine lv_iload_n hx hb dX1_lastBegun_6 rfl (lv_at hl 3 rfl) ?_
      refine lv_bipush (v := 12) hx hb dX1_lastBegun_7 (by decide) ?_
      refine lv_icmp_ge (tgt := 69) hx hb dX1_lastBegun_9 (by decide) (fun _ => ?_) (fun h => absurd (lp_o rfl hk (by decide)) h)
      refine lv_iload_n hx hb dX1_lastBegun_69 rfl (lv_at hl 1 rfl) ?_
      exact k_iret hx hb hr hlocks rfl hw hE rfl dX1_lastBegun_70
    | succ k ih =>
      intro i v1 v2 H locs ls hk hV hw hl
      refine lv_iload_n hx hb dX1_lastBegun_6 rfl (lv_at hl 3 rfl) ?_
      refine lv_bipush (v := 12) hx hb dX1_lastBegun_7 (by decide) ?_
      refine lv_icmp_ge (tgt := 69) hx hb dX1_lastBegun_9 (by decide) (fun h => absurd h (lp_i rfl hk (by decide))) (fun _ => ?_)
      refine lv_aload_n hx hb dX1_lastBegun_12 rfl (lv_at hl 0 rfl) ?_
      refine k_get (C := RX1) (T := TX1) (N := 8) (v := .ref (ad 24 j)) hx hb hts inB_X1 hown hK hw (hL 6 j (cidJ6 hj)) cke_6 rfl 0 (by decide) (hts _ w_f_X1_9) (fun _ h9 => h9) rfl dX1_lastBegun_13 ?_
      refine lv_iload_n hx hb dX1_lastBegun_16 rfl (lv_at hl 3 rfl) ?_
      refine k_aldn hx hb hK hw (hL 24 j (cidJ24 hj)) 0 cke_24 rfl (lp_l hk) (by decide) dX1_lastBegun_17 ?_
      refine lv_iconst (v := 1) hx hb dX1_lastBegun_18 (by decide) ?_
      refine lv_icmp_eq (tgt := 32) hx hb dX1_lastBegun_19 (by decide) (fun c_1 => ?_) (fun c_1 => ?_)
      · have hV := hV.trans (if_pos c_1)
        refine lv_iconst (v := 1) hx hb dX1_lastBegun_32 (by decide) ?_
        refine lv_goto (tgt := 37) hx hb dX1_lastBegun_33 (by decide) ?_
        refine lv_istore (lv' := [(4, .int 1), (0, .ref (ad 6 j)), (1, .int v1), (2, .int v2), (3, .int (nI i))]) hx hb dX1_lastBegun_37 hl (by decide) rfl (fun ls hl => ?_)
        refine lv_iload hx hb dX1_lastBegun_39 (lv_at hl 0 rfl) ?_
        refine lv_if_eq (tgt := 63) hx hb dX1_lastBegun_41 (by decide) (fun h => absurd h (by decide)) (fun _ => ?_)
        refine lv_aload_n hx hb dX1_lastBegun_44 rfl (lv_at hl 1 rfl) ?_
        refine k_get (C := RX1) (T := TX1) (N := 8) (v := .ref (ad 25 j)) hx hb hts inB_X1 hown hK hw (hL 6 j (cidJ6 hj)) cke_6 rfl 1 (by decide) (hts _ w_f_X1_15) (fun _ h9 => h9) rfl dX1_lastBegun_45 ?_
        refine lv_iload_n hx hb dX1_lastBegun_48 rfl (lv_at hl 4 rfl) ?_
        refine k_aldn hx hb hK hw (hL 25 j (cidJ25 hj)) 0 cke_25 rfl (lp_l hk) (by decide) dX1_lastBegun_49 ?_
        refine lv_iload_n hx hb dX1_lastBegun_50 rfl (lv_at hl 3 rfl) ?_
        refine lv_icmp_lt (tgt := 63) hx hb dX1_lastBegun_51 (by decide) (fun c_2 => ?_) (fun c_2 => ?_)
        · have hV := hV.trans (if_pos c_2)
          refine lv_iinc (v := (nI (i + 1))) (lv' := [(3, .int (nI (i + 1))), (4, .int 1), (0, .ref (ad 6 j)), (1, .int v1), (2, .int v2)]) hx hb dX1_lastBegun_63 hl (k := 4) rfl (nI_1 _) (by decide) rfl (fun ls hl => ?_)
          refine lv_goto (tgt := 6) hx hb dX1_lastBegun_66 (by decide) ?_
          exact ih (i + 1) v1 v2 _ _ _ (lp_s hk) hV hw (lv_sub hl [2, 3, 4, 0] rfl)
        · have hV := hV.trans (if_neg c_2)
          refine lv_iload_n hx hb dX1_lastBegun_54 rfl (lv_at hl 4 rfl) ?_
          refine lv_istore_n (lv' := [(1, .int (nI i)), (4, .int 1), (0, .ref (ad 6 j)), (2, .int v2), (3, .int (nI i))]) hx hb dX1_lastBegun_55 rfl hl (by decide) rfl (fun ls hl => ?_)
          refine lv_aload_n hx hb dX1_lastBegun_56 rfl (lv_at hl 2 rfl) ?_
          refine k_get (C := RX1) (T := TX1) (N := 8) (v := .ref (ad 25 j)) hx hb hts inB_X1 hown hK hw (hL 6 j (cidJ6 hj)) cke_6 rfl 1 (by decide) (hts _ w_f_X1_15) (fun _ h9 => h9) rfl dX1_lastBegun_57 ?_
          refine lv_iload_n hx hb dX1_lastBegun_60 rfl (lv_at hl 4 rfl) ?_
          refine k_aldn hx hb hK hw (hL 25 j (cidJ25 hj)) 0 cke_25 rfl (lp_l hk) (by decide) dX1_lastBegun_61 ?_
          refine lv_istore_n (lv' := [(2, .int (S 25 j i)), (1, .int (nI i)), (4, .int 1), (0, .ref (ad 6 j)), (3, .int (nI i))]) hx hb dX1_lastBegun_62 rfl hl (by decide) rfl (fun ls hl => ?_)
          refine lv_iinc (v := (nI (i + 1))) (lv' := [(3, .int (nI (i + 1))), (2, .int (S 25 j i)), (1, .int (nI i)), (4, .int 1), (0, .ref (ad 6 j))]) hx hb dX1_lastBegun_63 hl (k := 4) rfl (nI_1 _) (by decide) rfl (fun ls hl => ?_)
          refine lv_goto (tgt := 6) hx hb dX1_lastBegun_66 (by decide) ?_
          exact ih (i + 1) (nI i) (S 25 j i) _ _ _ (lp_s hk) hV hw (lv_sub hl [4, 2, 1, 0] rfl)
      · have hV := hV.trans (if_neg c_1)
        refine lv_aload_n hx hb dX1_lastBegun_22 rfl (lv_at hl 0 rfl) ?_
        refine k_get (C := RX1) (T := TX1) (N := 8) (v := .ref (ad 24 j)) hx hb hts inB_X1 hown hK hw (hL 6 j (cidJ6 hj)) cke_6 rfl 0 (by decide) (hts _ w_f_X1_9) (fun _ h9 => h9) rfl dX1_lastBegun_23 ?_
        refine lv_iload_n hx hb dX1_lastBegun_26 rfl (lv_at hl 3 rfl) ?_
        refine k_aldn hx hb hK hw (hL 24 j (cidJ24 hj)) 0 cke_24 rfl (lp_l hk) (by decide) dX1_lastBegun_27 ?_
        refine lv_iconst (v := 2) hx hb dX1_lastBegun_28 (by decide) ?_
        refine lv_icmp_ne (tgt := 36) hx hb dX1_lastBegun_29 (by decide) (fun c_3 => ?_) (fun c_3 => ?_)
        · have hV := hV.trans (if_neg c_3)
          refine lv_iconst (v := 0) hx hb dX1_lastBegun_36 (by decide) ?_
          refine lv_istore (lv' := [(4, .int 0), (0, .ref (ad 6 j)), (1, .int v1), (2, .int v2), (3, .int (nI i))]) hx hb dX1_lastBegun_37 hl (by decide) rfl (fun ls hl => ?_)
          refine lv_iload hx hb dX1_lastBegun_39 (lv_at hl 0 rfl) ?_
          refine lv_if_eq (tgt := 63) hx hb dX1_lastBegun_41 (by decide) (fun _ => ?_) (fun h => absurd (by decide) h)
          refine lv_iinc (v := (nI (i + 1))) (lv' := [(3, .int (nI (i + 1))), (4, .int 0), (0, .ref (ad 6 j)), (1, .int v1), (2, .int v2)]) hx hb dX1_lastBegun_63 hl (k := 4) rfl (nI_1 _) (by decide) rfl (fun ls hl => ?_)
          refine lv_goto (tgt := 6) hx hb dX1_lastBegun_66 (by decide) ?_
          exact ih (i + 1) v1 v2 _ _ _ (lp_s hk) hV hw (lv_sub hl [2, 3, 4, 0] rfl)
        · have hV := hV.trans (if_pos c_3)
          refine lv_iconst (v := 1) hx hb dX1_lastBegun_32 (by decide) ?_
          refine lv_goto (tgt := 37) hx hb dX1_lastBegun_33 (by decide) ?_
          refine lv_istore (lv' := [(4, .int 1), (0, .ref (ad 6 j)), (1, .int v1), (2, .int v2), (3, .int (nI i))]) hx hb dX1_lastBegun_37 hl (by decide) rfl (fun ls hl => ?_)
          refine lv_iload hx hb dX1_lastBegun_39 (lv_at hl 0 rfl) ?_
          refine lv_if_eq (tgt := 63) hx hb dX1_lastBegun_41 (by decide) (fun h => absurd h (by decide)) (fun _ => ?_)
          refine lv_aload_n hx hb dX1_lastBegun_44 rfl (lv_at hl 1 rfl) ?_
          refine k_get (C := RX1) (T := TX1) (N := 8) (v := .ref (ad 25 j)) hx hb hts inB_X1 hown hK hw (hL 6 j (cidJ6 hj)) cke_6 rfl 1 (by decide) (hts _ w_f_X1_15) (fun _ h9 => h9) rfl dX1_lastBegun_45 ?_
          refine lv_iload_n hx hb dX1_lastBegun_48 rfl (lv_at hl 4 rfl) ?_
          refine k_aldn hx hb hK hw (hL 25 j (cidJ25 hj)) 0 cke_25 rfl (lp_l hk) (by decide) dX1_lastBegun_49 ?_
          refine lv_iload_n hx hb dX1_lastBegun_50 rfl (lv_at hl 3 rfl) ?_
          refine lv_icmp_lt (tgt := 63) hx hb dX1_lastBegun_51 (by decide) (fun c_4 => ?_) (fun c_4 => ?_)
          · have hV := hV.trans (if_pos c_4)
            refine lv_iinc (v := (nI (i + 1))) (lv' := [(3, .int (nI (i + 1))), (4, .int 1), (0, .ref (ad 6 j)), (1, .int v1), (2, .int v2)]) hx hb dX1_lastBegun_63 hl (k := 4) rfl (nI_1 _) (by decide) rfl (fun ls hl => ?_)
            refine lv_goto (tgt := 6) hx hb dX1_lastBegun_66 (by decide) ?_
            exact ih (i + 1) v1 v2 _ _ _ (lp_s hk) hV hw (lv_sub hl [2, 3, 4, 0] rfl)
          · have hV := hV.trans (if_neg c_4)
            refine lv_iload_n hx hb dX1_lastBegun_54 rfl (lv_at hl 4 rfl) ?_
            refine lv_istore_n (lv' := [(1, .int (nI i)), (4, .int 1), (0, .ref (ad 6 j)), (2, .int v2), (3, .int (nI i))]) hx hb dX1_lastBegun_55 rfl hl (by decide) rfl (fun ls hl => ?_)
            refine lv_aload_n hx hb dX1_lastBegun_56 rfl (lv_at hl 2 rfl) ?_
            refine k_get (C := RX1) (T := TX1) (N := 8) (v := .ref (ad 25 j)) hx hb hts inB_X1 hown hK hw (hL 6 j (cidJ6 hj)) cke_6 rfl 1 (by decide) (hts _ w_f_X1_15) (fun _ h9 => h9) rfl dX1_lastBegun_57 ?_
            refine lv_iload_n hx hb dX1_lastBegun_60 rfl (lv_at hl 4 rfl) ?_
            refine k_aldn hx hb hK hw (hL 25 j (cidJ25 hj)) 0 cke_25 rfl (lp_l hk) (by decide) dX1_lastBegun_61 ?_
            refine lv_istore_n (lv' := [(2, .int (S 25 j i)), (1, .int (nI i)), (4, .int 1), (0, .ref (ad 6 j)), (3, .int (nI i))]) hx hb dX1_lastBegun_62 rfl hl (by decide) rfl (fun ls hl => ?_)
            refine lv_iinc (v := (nI (i + 1))) (lv' := [(3, .int (nI (i + 1))), (2, .int (S 25 j i)), (1, .int (nI i)), (4, .int 1), (0, .ref (ad 6 j))]) hx hb dX1_lastBegun_63 hl (k := 4) rfl (nI_1 _) (by decide) rfl (fun ls hl => ?_)
            refine lv_goto (tgt := 6) hx hb dX1_lastBegun_66 (by decide) ?_
            exact ih (i + 1) (nI i) (S 25 j i) _ _ _ (lp_s hk) hV hw (lv_sub hl [4, 2, 1, 0] rfl)
  exact key_6 12 0 (-1) (-1) _ _ _ (Nat.zero_add _) rfl hw (lv_sub hl [3, 2, 1, 0] rfl)
