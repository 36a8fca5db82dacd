abbrev bw_X0_lookFrom : List Cond := .code yX0_lookFrom cX0_lookFrom 5 none :: BIG
abbrev rm_X0_lookFrom : Room := { frames := 2, cells := 0, slots := 0, locals := 48 }
noncomputable def lp_X0_lookFrom_10 (p1 : Int32) (p2 : Int32) (p3 : Int32) : Nat → Nat → (Nat → Nat → Nat → Int32) → (Nat → Nat → Nat → Int32)
  | 0, i, Sx => (Sx)
  | k + 1, i, Sx => if sp_X3_hasPiece Sx (nI i) = 0 then (lp_X0_lookFrom_10 p1 p2 p3 k (i + 1) (up3 Sx 21 0 i (sp_X3_earliestToCome Sx (nI i) p1 p2 p3))) else (lp_X0_lookFrom_10 p1 p2 p3 k (i + 1) (up3 Sx 21 0 i p1))
theorem lz_lp_X0_lookFrom_10 (p1 : Int32) (p2 : Int32) (p3 : Int32) (i : Nat) (Sx : (Nat → Nat → Nat → Int32)) : lp_X0_lookFrom_10 p1 p2 p3 0 i Sx = (Sx) := rfl
theorem sfl_lp_X0_lookFrom_10 (p1 : Int32) (p2 : Int32) (p3 : Int32) : ∀ (k i : Nat) (Sx T : (Nat → Nat → Nat → Int32)), SF T Sx → SF T ((lp_X0_lookFrom_10 p1 p2 p3 k i Sx)) := by
  intro k
  induction k with
  | zero => intro i Sx T h; exact h
  | succ k ih => 
    intro i Sx T h
    unfold lp_X0_lookFrom_10
    by_cases q_2 : sp_X3_hasPiece Sx (nI i) = 0
    · rw [if_pos q_2]
      exact ih (i + 1) (up3 Sx 21 0 i (sp_X3_earliestToCome Sx (nI i) p1 p2 p3)) T (SF.up (by decide) h)
    · rw [if_neg q_2]
      exact ih (i + 1) (up3 Sx 21 0 i p1) T (SF.up (by decide) h)

noncomputable def rw_X0_lookFrom (S : (Nat → Nat → Nat → Int32)) (p1 : Int32) (p2 : Int32) (p3 : Int32) : (Nat → Nat → Nat → Int32) := (lp_X0_lookFrom_10 p1 p2 p3 4 0 (up3 S 4 0 0 (p1 + 1)))
/-- sealed: it unfolds by un_ alone -/
noncomputable def sp_X0_lookFrom : (Nat → Nat → Nat → Int32) → Int32 → Int32 → Int32 → ((Nat → Nat → Nat → Int32)) := Classical.choose (⟨rw_X0_lookFrom, rfl⟩ : ∃ f, f = rw_X0_lookFrom)
theorem un_X0_lookFrom (S : (Nat → Nat → Nat → Int32)) (p1 : Int32) (p2 : Int32) (p3 : Int32) : sp_X0_lookFrom S p1 p2 p3 = rw_X0_lookFrom S p1 p2 p3 := (congrFun (congrFun (congrFun (congrFun (Classical.choose_spec (⟨rw_X0_lookFrom, rfl⟩ : ∃ f, f = rw_X0_lookFrom)) S) p1) p2) p3)
theorem sf_X0_lookFrom (S : (Nat → Nat → Nat → Int32)) (p1 : Int32) (p2 : Int32) (p3 : Int32) : SF S (sp_X0_lookFrom S p1 p2 p3) := by
  rw [un_X0_lookFrom]
  unfold rw_X0_lookFrom
  exact (sfl_lp_X0_lookFrom_10 p1 p2 p3 4 0 (up3 S 4 0 0 (p1 + 1)) _ (SF.up (by decide) (SF.rf _)))

set_option maxHeartbeats 1000000 in
set_option maxRecDepth 100000 in
theorem ct_X0_lookFrom {l : Launch} {D : va_G} {cI cG cJ cO : ClassId} {K0 : Nat → Nat} {A : Nat → Prop} {L : List (Nat × Nat)} {ad : Nat → Nat → Nat} {ce : Nat → Nat → va_E} (hL : ∀ f o, cid f o = true → (f, o) ∈ L) (S : (Nat → Nat → Nat → Int32)) (hI : CI S) (p1 : Int32) (p2 : Int32) (p3 : Int32) (sz : Nat) (hA : ∀ q, sz ≤ q → A q) : Met l yX0_lookFrom bw_X0_lookFrom rm_X0_lookFrom (kP D (ktys cI cG cJ cO) K0 A L ad (cK cI cJ ad ce S) sz [.ref (ad 4 0), .int p1, .int p2, .int p3]) (kQv D A L ad (cK cI cJ ad ce (sp_X0_lookFrom S p1 p2 p3))) 0 0 A := by
  refine Met.ofW (cc := cX0_lookFrom) (maxL := 5) (ret := none) (by decide) rfl ?_
  intro p e s m args below meth c s₁ B hml hv
  obtain ⟨hav, hsz, hP, hD, hK, hO⟩ := hv
  have hx := B.exec
  have hb := B.bytes
  have hr := B.returns
  have hts : ∀ w ∈ BIG, w.before args s = true := fun w h => atoms_spec (ws := bw_X0_lookFrom) B.pre w (List.mem_cons_of_mem _ h)
  have hown : s.vm.findClass RX0 = some m.cls := findClass_of_methodNamed B.named
  have hlocks := B.notSynchronized
  subst hsz
  have hw := wk.start hP hD
  refine k_start (by rfl) hav (Nat.le_of_ble_eq_true rfl) (fun ls hl => ?_)
  have hl : lv_has ls 5 [(0, .ref (ad 4 0)), (1, .int p1), (2, .int p2), (3, .int p3)] := hl
  have hE : sp_X0_lookFrom S p1 p2 p3 = (lp_X0_lookFrom_10 p1 p2 p3 4 0 (up3 S 4 0 0 (p1 + 1))) := un_X0_lookFrom S p1 p2 p3
  refine lv_aload_n hx hb dX0_lookFrom_0 rfl (lv_at hl 0 rfl) ?_
  refine lv_iload_n hx hb dX0_lookFrom_1 rfl (lv_at hl 1 rfl) ?_
  refine lv_iconst (v := 1) hx hb dX0_lookFrom_2 (by decide) ?_
  refine lv_iadd hx hb dX0_lookFrom_3 ?_
  refine k_put (C := RX0) (T := TX0) (N := 7) (v := .int (p1 + 1)) (ty := .int) hx hb hts inB_X0 tyX0 tyX0_ok nmX0 hown hK hw (hL 4 0 rfl) cke_4 rfl 6 (by decide) (hts _ w_f_X0_41) (fun _ h9 => h9) rfl (by decide +kernel) rfl rfl (Nat.le_of_ble_eq_true rfl) (cK_up (i := 0) (x := (p1 + 1)) (by decide) rfl) dX0_lookFrom_4 (fun H locs hw => ?_)
  refine lv_iconst (v := 0) hx hb dX0_lookFrom_7 (by decide) ?_
  refine lv_istore (lv' := [(4, .int 0), (0, .ref (ad 4 0)), (1, .int p1), (2, .int p2), (3, .int p3)]) hx hb dX0_lookFrom_8 hl (by decide) rfl (fun ls hl => ?_)
  have key_10 : ∀ (k i : Nat) (Sx : (Nat → Nat → Nat → Int32)) (H : Heap) (locs : List Loc) (ls : Array Slot), i + k = 4 → SF S Sx → (lp_X0_lookFrom_10 p1 p2 p3 4 0 (up3 S 4 0 0 (p1 + 1))) = lp_X0_lookFrom_10 p1 p2 p3 k i Sx → wk D A L ad (cK cI cJ ad ce Sx) s.heap H locs → lv_has ls 5 [(0, .ref (ad 4 0)), (1, .int p1), (2, .int p2), (3, .int p3), (4, .int (nI i))] → W p l e (headSpec bw_X0_lookFrom rm_X0_lookFrom).room s m args below meth c H locs 0 0 (MQ below (kQv D A L ad (cK cI cJ ad ce (sp_X0_lookFrom S p1 p2 p3))) args s 0 0 A) (F0 m 10 ls []) := by
    intro k
    induction k with
    | zero =>
      intro i Sx H locs ls hk hsf hV hw hl
      have hV := hV.trans (lz_lp_X0_lookFrom_10 p1 p2 p3 i Sx)
      subst hV
      refine lv_iload hx hb dX0_lookFrom_10 (lv_at hl 4 rfl) ?_
      refine lv_iconst (v := 4) hx hb dX0_lookFrom_12 (by decide) ?_
      refine lv_icmp_ge (tgt := 57) hx hb dX0_lookFrom_13 (by decide) (fun _ => ?_) (fun h => absurd (lp_o rfl hk (by decide)) h)
      exact k_vretE hx hb hr hlocks hw hE dX0_lookFrom_57
    | succ k ih =>
      intro i Sx H locs ls hk hsf hV hw hl
      refine lv_iload hx hb dX0_lookFrom_10 (lv_at hl 4 rfl) ?_
      refine lv_iconst (v := 4) hx hb dX0_lookFrom_12 (by decide) ?_
      refine lv_icmp_ge (tgt := 57) hx hb dX0_lookFrom_13 (by decide) (fun h => absurd h (lp_i rfl hk (by decide))) (fun _ => ?_)
      refine lv_aload_n hx hb dX0_lookFrom_16 rfl (lv_at hl 0 rfl) ?_
      refine k_get (C := RX0) (T := TX0) (N := 7) (v := .ref (ad 21 0)) hx hb hts inB_X0 hown hK hw (hL 4 0 rfl) cke_4 rfl 3 (by decide) (hts _ w_f_X0_9) (fun _ h9 => h9) rfl dX0_lookFrom_17 ?_
      refine lv_iload hx hb dX0_lookFrom_20 (lv_at hl 4 rfl) ?_
      refine lv_aload_n hx hb dX0_lookFrom_22 rfl (lv_at hl 0 rfl) ?_
      refine k_get (C := RX0) (T := TX0) (N := 7) (v := .ref (ad 2 0)) hx hb hts inB_X0 hown hK hw (hL 4 0 rfl) cke_4 rfl 1 (by decide) (hts _ w_f_X0_25) (fun _ h9 => h9) rfl dX0_lookFrom_23 ?_
      refine lv_iload hx hb dX0_lookFrom_26 (lv_at hl 4 rfl) ?_
      refine k_ci0 hw (k_rV (As := [.int (nI i)]) (rest := [.int (nI i), .ref (ad 21 0)]) ⟨hx, hb, hml, hown, hts⟩ hK hO hw (ct_X3_hasPiece hL Sx (SF.ci hsf hI) (nI i) _ (wk.hA hw hA)) (cwV 1 hts (gB_V w_ml_X0_45 w_im_X3_hasPiece w_se_X3_hasPiece w_in_X3 w_co_X3_hasPiece) rfl rfl rfl (by decide +kernel) ⟨by decide, by decide⟩) (hL 2 0 rfl) cke_2 rfl rfl hl.1 rfl (Nat.le_of_ble_eq_true rfl) dX0_lookFrom_28 ⟨Nat.le_of_ble_eq_true rfl, Nat.le_of_ble_eq_true rfl⟩) (fun H locs hw => ?_)
      refine lv_if_eq (tgt := 38) hx hb dX0_lookFrom_31 (by decide) (fun c_1 => ?_) (fun c_1 => ?_)
      · have hV := hV.trans (if_pos c_1)
        refine lv_aload_n hx hb dX0_lookFrom_38 rfl (lv_at hl 0 rfl) ?_
        refine k_get (C := RX0) (T := TX0) (N := 7) (v := .ref (ad 2 0)) hx hb hts inB_X0 hown hK hw (hL 4 0 rfl) cke_4 rfl 1 (by decide) (hts _ w_f_X0_25) (fun _ h9 => h9) rfl dX0_lookFrom_39 ?_
        refine lv_iload hx hb dX0_lookFrom_42 (lv_at hl 4 rfl) ?_
        refine lv_iload_n hx hb dX0_lookFrom_44 rfl (lv_at hl 1 rfl) ?_
        refine lv_iload_n hx hb dX0_lookFrom_45 rfl (lv_at hl 2 rfl) ?_
        refine lv_iload_n hx hb dX0_lookFrom_46 rfl (lv_at hl 3 rfl) ?_
        refine k_ci0 hw (k_rV (As := [.int (nI i), .int p1, .int p2, .int p3]) (rest := [.int (nI i), .ref (ad 21 0)]) ⟨hx, hb, hml, hown, hts⟩ hK hO hw (ct_X3_earliestToCome hL Sx (SF.ci hsf hI) (nI i) p1 p2 p3 _ (wk.hA hw hA)) (cwV 4 hts (gB_V w_ml_X0_51 w_im_X3_earliestToCome w_se_X3_earliestToCome w_in_X3 w_co_X3_earliestToCome) rfl rfl rfl (by decide +kernel) ⟨by decide, by decide⟩) (hL 2 0 rfl) cke_2 rfl rfl hl.1 rfl (Nat.le_of_ble_eq_true rfl) dX0_lookFrom_47 ⟨Nat.le_of_ble_eq_true rfl, Nat.le_of_ble_eq_true rfl⟩) (fun H locs hw => ?_)
        refine k_astn hx hb hK hw (hL 21 0 rfl) 0 cke_21 rfl (lp_l hk) (by decide) (cK_up (i := i) (x := (sp_X3_earliestToCome Sx (nI i) p1 p2 p3)) (by decide) rfl) dX0_lookFrom_50 (fun H locs hw => ?_)
        refine lv_iinc (v := (nI (i + 1))) (lv' := [(4, .int (nI (i + 1))), (0, .ref (ad 4 0)), (1, .int p1), (2, .int p2), (3, .int p3)]) hx hb dX0_lookFrom_51 hl (k := 4) rfl (nI_1 _) (by decide) rfl (fun ls hl => ?_)
        refine lv_goto (tgt := 10) hx hb dX0_lookFrom_54 (by decide) ?_
        exact ih (i + 1) (up3 Sx 21 0 i (sp_X3_earliestToCome Sx (nI i) p1 p2 p3)) _ _ _ (lp_s hk) (SF.up (by decide) hsf) hV hw (lv_sub hl [1, 2, 3, 4, 0] rfl)
      · have hV := hV.trans (if_neg c_1)
        refine lv_iload_n hx hb dX0_lookFrom_34 rfl (lv_at hl 1 rfl) ?_
        refine lv_goto (tgt := 50) hx hb dX0_lookFrom_35 (by decide) ?_
        refine k_astn hx hb hK hw (hL 21 0 rfl) 0 cke_21 rfl (lp_l hk) (by decide) (cK_up (i := i) (x := p1) (by decide) rfl) dX0_lookFrom_50 (fun H locs hw => ?_)
        refine lv_iinc (v := (nI (i + 1))) (lv' := [(4, .int (nI (i + 1))), (0, .ref (ad 4 0)), (1, .int p1), (2, .int p2), (3, .int p3)]) hx hb dX0_lookFrom_51 hl (k := 4) rfl (nI_1 _) (by decide) rfl (fun ls hl => ?_)
        refine lv_goto (tgt := 10) hx hb dX0_lookFrom_54 (by decide) ?_
        exact ih (i + 1) (up3 Sx 21 0 i p1) _ _ _ (lp_s hk) (SF.up (by decide) hsf) hV hw (lv_sub hl [1, 2, 3, 4, 0] rfl)
  exact key_10 4 0 (up3 S 4 0 0 (p1 + 1)) _ _ _ (Nat.zero_add _) (SF.up (by decide) (SF.rf _)) rfl hw (lv_sub hl [1, 2, 3, 4, 0] rfl)

abbrev bw_X0_withSupply : List Cond := .code yX0_withSupply cX0_withSupply 3 (some .int) :: BIG
abbrev rm_X0_withSupply : Room := { frames := 1, cells := 0, slots := 0, locals := 21 }
noncomputable def sp_X0_withSupply (S : (Nat → Nat → Nat → Int32)) (p1 : Int32) (p2 : Int32) : Int32 := if p2 < 0 then ((-1)) else (if 4 ≤ p2 then ((-1)) else (if S 21 0 p2.toNatClampNeg = (-1) then ((-1)) else ((if p1 < S 21 0 p2.toNatClampNeg then S 21 0 p2.toNatClampNeg else p1))))
set_option maxHeartbeats 1000000 in
set_option maxRecDepth 100000 in
theorem ct_X0_withSupply {l : Launch} {D : va_G} {cI cG cJ cO : ClassId} {K0 : Nat → Nat} {A : Nat → Prop} {L : List (Nat × Nat)} {ad : Nat → Nat → Nat} {ce : Nat → Nat → va_E} (hL : ∀ f o, cid f o = true → (f, o) ∈ L) (S : (Nat → Nat → Nat → Int32)) (hI : CI S) (p1 : Int32) (p2 : Int32) (sz : Nat) (hA : ∀ q, sz ≤ q → A q) : Met l yX0_withSupply bw_X0_withSupply rm_X0_withSupply (kP D (ktys cI cG cJ cO) K0 A L ad (cK cI cJ ad ce S) sz [.ref (ad 4 0), .int p1, .int p2]) (kQi D A (sp_X0_withSupply S p1 p2) L ad (cK cI cJ ad ce S)) 0 0 A := by
  refine Met.ofW (cc := cX0_withSupply) (maxL := 3) (ret := (some .int)) (by decide) rfl ?_
  intro p e s m args below meth c s₁ B hml hv
  obtain ⟨hav, hsz, hP, hD, hK, hO⟩ := hv
  have hx := B.exec
  have hb := B.bytes
  have hr := B.returns
  have hts : ∀ w ∈ BIG, w.before args s = true := fun w h => atoms_spec (ws := bw_X0_withSupply) B.pre w (List.mem_cons_of_mem _ h)
  have hown : s.vm.findClass RX0 = some m.cls := findClass_of_methodNamed B.named
  have hlocks := B.notSynchronized
  subst hsz
  have hw := wk.start hP hD
  refine k_start (by rfl) hav (Nat.le_of_ble_eq_true rfl) (fun ls hl => ?_)
  have hl : lv_has ls 3 [(0, .ref (ad 4 0)), (1, .int p1), (2, .int p2)] := hl
  have hE : sp_X0_withSupply S p1 p2 = sp_X0_withSupply S p1 p2 := rfl
  refine lv_iload_n hx hb dX0_withSupply_0 rfl (lv_at hl 2 rfl) ?_
  refine lv_if_lt (tgt := 19) hx hb dX0_withSupply_1 (by decide) (fun c_1 => ?_) (fun c_1 => ?_)
  · have hE := hE.trans (if_pos c_1)
    refine lv_iconst (v := (-1)) hx hb dX0_withSupply_19 (by decide) ?_
    exact k_iret hx hb hr hlocks rfl hw hE rfl dX0_withSupply_20
  · have hE := hE.trans (if_neg c_1)
    refine lv_iload_n hx hb dX0_withSupply_4 rfl (lv_at hl 2 rfl) ?_
    refine lv_iconst (v := 4) hx hb dX0_withSupply_5 (by decide) ?_
    refine lv_icmp_ge (tgt := 19) hx hb dX0_withSupply_6 (by decide) (fun c_2 => ?_) (fun c_2 => ?_)
    · have hE := hE.trans (if_pos c_2)
      refine lv_iconst (v := (-1)) hx hb dX0_withSupply_19 (by decide) ?_
      exact k_iret hx hb hr hlocks rfl hw hE rfl dX0_withSupply_20
    · have hE := hE.trans (if_neg c_2)
      refine lv_aload_n hx hb dX0_withSupply_9 rfl (lv_at hl 0 rfl) ?_
      refine k_get (C := RX0) (T := TX0) (N := 7) (v := .ref (ad 21 0)) hx hb hts inB_X0 hown hK hw (hL 4 0 rfl) cke_4 rfl 3 (by decide) (hts _ w_f_X0_9) (fun _ h9 => h9) rfl dX0_withSupply_10 ?_
      refine lv_iload_n hx hb dX0_withSupply_13 rfl (lv_at hl 2 rfl) ?_
      refine k_ald hx hb hK hw (hL 21 0 rfl) 0 cke_21 rfl (k_in c_1 c_2 (by decide)) dX0_withSupply_14 ?_
      refine lv_iconst (v := (-1)) hx hb dX0_withSupply_15 (by decide) ?_
      refine lv_icmp_ne (tgt := 21) hx hb dX0_withSupply_16 (by decide) (fun c_3 => ?_) (fun c_3 => ?_)
      · have hE := hE.trans (if_neg c_3)
        refine lv_iload_n hx hb dX0_withSupply_21 rfl (lv_at hl 1 rfl) ?_
        refine lv_aload_n hx hb dX0_withSupply_22 rfl (lv_at hl 0 rfl) ?_
        refine k_get (C := RX0) (T := TX0) (N := 7) (v := .ref (ad 21 0)) hx hb hts inB_X0 hown hK hw (hL 4 0 rfl) cke_4 rfl 3 (by decide) (hts _ w_f_X0_9) (fun _ h9 => h9) rfl dX0_withSupply_23 ?_
        refine lv_iload_n hx hb dX0_withSupply_26 rfl (lv_at hl 2 rfl) ?_
        refine k_ald hx hb hK hw (hL 21 0 rfl) 0 cke_21 rfl (k_in c_1 c_2 (by decide)) dX0_withSupply_27 ?_
        refine va_mmax hx hb (hml.trans hl.1.symm) hown (hts _ w_ml_X0_84) (hts _ w_st_max) (hts _ w_in_J9) (hts _ w_co_max) (by decide) (Nat.le_of_ble_eq_true rfl) (Nat.zero_le _) (Nat.zero_le _) dX0_withSupply_28 ?_
        exact k_iret hx hb hr hlocks rfl hw hE rfl dX0_withSupply_31
      · have hE := hE.trans (if_pos c_3)
        refine lv_iconst (v := (-1)) hx hb dX0_withSupply_19 (by decide) ?_
        exact k_iret hx hb hr hlocks rfl hw hE rfl dX0_withSupply_20

abbrev bw_X0_greatestEnd : List Cond := .code yX0_greatestEnd cX0_greatestEnd 4 (some .int) :: BIG
abbrev rm_X0_greatestEnd : Room := { frames := 1, cells := 0, slots := 0, locals := 21 }
noncomputable def lp_X0_greatestEnd_4 (S : (Nat → Nat → Nat → Int32)) (p1 : Int32) : Nat → Nat → Int32 → Int32
  | 0, i, v2 => v2
  | k + 1, i, v2 => if sp_X5_has p1 (nI i) = 0 then (lp_X0_greatestEnd_4 S p1 k (i + 1) v2) else (if S 23 0 i = (-1) then ((-1)) else (lp_X0_greatestEnd_4 S p1 k (i + 1) (if v2 < S 23 0 i then S 23 0 i else v2)))
noncomputable def sp_X0_greatestEnd (S : (Nat → Nat → Nat → Int32)) (p1 : Int32) : Int32 := lp_X0_greatestEnd_4 S p1 12 0 (-1)
set_option maxHeartbeats 1000000 in
set_option maxRecDepth 100000 in
theorem ct_X0_greatestEnd {l : Launch} {D : va_G} {cI cG cJ cO : ClassId} {K0 : Nat → Nat} {A : Nat → Prop} {L : List (Nat × Nat)} {ad : Nat → Nat → Nat} {ce : Nat → Nat → va_E} (hL : ∀ f o, cid f o = true → (f, o) ∈ L) (S : (Nat → Nat → Nat → Int32)) (hI : CI S) (p1 : Int32) (sz : Nat) (hA : ∀ q, sz ≤ q → A q) : Met l yX0_greatestEnd bw_X0_greatestEnd rm_X0_greatestEnd (kP D (ktys cI cG cJ cO) K0 A L ad (cK cI cJ ad ce S) sz [.ref (ad 4 0), .int p1]) (kQi D A (sp_X0_greatestEnd S p1) L ad (cK cI cJ ad ce S)) 0 0 A := by
  refine Met.ofW (cc := cX0_greatestEnd) (maxL := 4) (ret := (some .int)) (by decide) rfl ?_
  intro p e s m args below meth c s₁ B hml hv
  obtain ⟨hav, hsz, hP, hD, hK, hO⟩ := hv
  have hx := B.exec
  have hb := B.bytes
  have hr := B.returns
  have hts : ∀ w ∈ BIG, w.before args s = true := fun w h => atoms_spec (ws := bw_X0_greatestEnd) B.pre w (List.mem_cons_of_mem _ h)
  have hown : s.vm.findClass RX0 = some m.cls := findClass_of_methodNamed B.named
  have hlocks := B.notSynchronized
  subst hsz
  have hw := wk.start hP hD
  refine k_start (by rfl) hav (Nat.le_of_ble_eq_true rfl) (fun ls hl => ?_)
  have hl : lv_has ls 4 [(0, .ref (ad 4 0)), (1, .int p1)] := hl
  have hE : sp_X0_greatestEnd S p1 = lp_X0_greatestEnd_4 S p1 12 0 (-1) := by unfold sp_X0_greatestEnd; rfl
  refine lv_iconst (v := (-1)) hx hb dX0_greatestEnd_0 (by decide) ?_
  refine lv_istore_n (lv' := [(2, .int (-1)), (0, .ref (ad 4 0)), (1, .int p1)]) hx hb dX0_greatestEnd_1 rfl hl (by decide) rfl (fun ls hl => ?_)
  refine lv_iconst (v := 0) hx hb dX0_greatestEnd_2 (by decide) ?_
  refine lv_istore_n (lv' := [(3, .int 0), (2, .int (-1)), (0, .ref (ad 4 0)), (1, .int p1)]) hx hb dX0_greatestEnd_3 rfl hl (by decide) rfl (fun ls hl => ?_)
  have key_4 : ∀ (k i : Nat) (v2 : Int32) (H : Heap) (locs : List Loc) (ls : Array Slot), i + k = 12 → sp_X0_greatestEnd S p1 = lp_X0_greatestEnd_4 S p1 k i v2 → wk D A L ad (cK cI cJ ad ce S) s.heap H locs → lv_has ls 4 [(0, .ref (ad 4 0)), (1, .int p1), (2, .int v2), (3, .int (nI i))] → W p l e (headSpec bw_X0_greatestEnd rm_X0_greatestEnd).room s m args below meth c H locs 0 0 (MQ below (kQi D A (sp_X0_greatestEnd S p1) L ad (cK cI cJ ad ce S)) args s 0 0 A) (F0 m 4 ls []) := by
    intro k
    induction k with
    | zero =>
      intro i v2 H locs ls hk hE hw hl
      refine lv_iload_n hx hb dX0_greatestEnd_4 rfl (lv_at hl 3 rfl) ?_
      refine lv_bipush (v := 12) hx hb dX0_greatestEnd_5 (by decide) ?_
      refine lv_icmp_ge (tgt := 47) hx hb dX0_greatestEnd_7 (by decide) (fun _ => ?_) (fun h => absurd (lp_o rfl hk (by decide)) h)
      refine lv_iload_n hx hb dX0_greatestEnd_47 rfl (lv_at hl 2 rfl) ?_
      exact k_iret hx hb hr hlocks rfl hw hE rfl dX0_greatestEnd_48
    | succ k ih =>
      intro i v2 H locs ls hk hE hw hl
      refine lv_iload_n hx hb dX0_greatestEnd_4 rfl (lv_at hl 3 rfl) ?_
      refine lv_bipush (v := 12) hx hb dX0_greatestEnd_5 (by decide) ?_
      refine lv_icmp_ge (tgt := 47) hx hb dX0_greatestEnd_7 (by decide) (fun h => absurd h (lp_i rfl hk (by decide))) (fun _ => ?_)
      refine lv_iload_n hx hb dX0_greatestEnd_10 rfl (lv_at hl 1 rfl) ?_
      refine lv_iload_n hx hb dX0_greatestEnd_11 rfl (lv_at hl 3 rfl) ?_
      refine k_ci0 hw (k_rSN (As := [.int p1, .int (nI i)]) (rest := []) ⟨hx, hb, hml, hown, hts⟩ hK hO hw (ct_X5_has p1 (nI i) _ (wk.hA hw hA)) (⟨va_cnB 2 hts (gB_0 w_co_X5_has) rfl rfl rfl (hO.2.2.1 _ w_mn_X0_73) (hts _ w_in_X5) (by decide +kernel) ⟨by decide, by decide⟩, hts _ w_st_X5_has, trivial⟩) rfl hl.1 rfl (Nat.le_of_ble_eq_true rfl) dX0_greatestEnd_12 ⟨Nat.le_of_ble_eq_true rfl, Nat.le_of_ble_eq_true rfl⟩) (fun H locs hw => ?_)
      refine lv_if_eq (tgt := 41) hx hb dX0_greatestEnd_15 (by decide) (fun c_1 => ?_) (fun c_1 => ?_)
      · have hE := hE.trans (if_pos c_1)
        refine lv_iinc (v := (nI (i + 1))) (lv' := [(3, .int (nI (i + 1))), (0, .ref (ad 4 0)), (1, .int p1), (2, .int v2)]) hx hb dX0_greatestEnd_41 hl (k := 3) rfl (nI_1 _) (by decide) rfl (fun ls hl => ?_)
        refine lv_goto (tgt := 4) hx hb dX0_greatestEnd_44 (by decide) ?_
        exact ih (i + 1) v2 _ _ _ (lp_s hk) hE hw (lv_sub hl [1, 2, 3, 0] rfl)
      · have hE := hE.trans (if_neg c_1)
        refine lv_aload_n hx hb dX0_greatestEnd_18 rfl (lv_at hl 0 rfl) ?_
        refine k_get (C := RX0) (T := TX0) (N := 7) (v := .ref (ad 23 0)) hx hb hts inB_X0 hown hK hw (hL 4 0 rfl) cke_4 rfl 5 (by decide) (hts _ w_f_X0_18) (fun _ h9 => h9) rfl dX0_greatestEnd_19 ?_
        refine lv_iload_n hx hb dX0_greatestEnd_22 rfl (lv_at hl 3 rfl) ?_
        refine k_aldn hx hb hK hw (hL 23 0 rfl) 0 cke_23 rfl (lp_l hk) (by decide) dX0_greatestEnd_23 ?_
        refine lv_iconst (v := (-1)) hx hb dX0_greatestEnd_24 (by decide) ?_
        refine lv_icmp_ne (tgt := 30) hx hb dX0_greatestEnd_25 (by decide) (fun c_2 => ?_) (fun c_2 => ?_)
        · have hE := hE.trans (if_neg c_2)
          refine lv_iload_n hx hb dX0_greatestEnd_30 rfl (lv_at hl 2 rfl) ?_
          refine lv_aload_n hx hb dX0_greatestEnd_31 rfl (lv_at hl 0 rfl) ?_
          refine k_get (C := RX0) (T := TX0) (N := 7) (v := .ref (ad 23 0)) hx hb hts inB_X0 hown hK hw (hL 4 0 rfl) cke_4 rfl 5 (by decide) (hts _ w_f_X0_18) (fun _ h9 => h9) rfl dX0_greatestEnd_32 ?_
          refine lv_iload_n hx hb dX0_greatestEnd_35 rfl (lv_at hl 3 rfl) ?_
          refine k_aldn hx hb hK hw (hL 23 0 rfl) 0 cke_23 rfl (lp_l hk) (by decide) dX0_greatestEnd_36 ?_
          refine va_mmax hx hb (hml.trans hl.1.symm) hown (hts _ w_ml_X0_84) (hts _ w_st_max) (hts _ w_in_J9) (hts _ w_co_max) (by decide) (Nat.le_of_ble_eq_true rfl) (Nat.zero_le _) (Nat.zero_le _) dX0_greatestEnd_37 ?_
          refine lv_istore_n (lv' := [(2, .int (if v2 < S 23 0 i then S 23 0 i else v2)), (0, .ref (ad 4 0)), (1, .int p1), (3, .int (nI i))]) hx hb dX0_greatestEnd_40 rfl hl (by decide) rfl (fun ls hl => ?_)
          refine lv_iinc (v := (nI (i + 1))) (lv' := [(3, .int (nI (i + 1))), (2, .int (if v2 < S 23 0 i then S 23 0 i else v2)), (0, .ref (ad 4 0)), (1, .int p1)]) hx hb dX0_greatestEnd_41 hl (k := 3) rfl (nI_1 _) (by decide) rfl (fun ls hl => ?_)
          refine lv_goto (tgt := 4) hx hb dX0_greatestEnd_44 (by decide) ?_
          exact ih (i + 1) (if v2 < S 23 0 i then S 23 0 i else v2) _ _ _ (lp_s hk) hE hw (lv_sub hl [2, 3, 1, 0] rfl)
        · have hE := hE.trans (if_pos c_2)
          refine lv_iconst (v := (-1)) hx hb dX0_greatestEnd_28 (by decide) ?_
          exact k_iret hx hb hr hlocks rfl hw hE rfl dX0_greatestEnd_29
  exact key_4 12 0 (-1) _ _ _ (Nat.zero_add _) hE hw (lv_sub hl [2, 3, 1, 0] rfl)

abbrev bw_X0_dayBehind : List Cond := .code yX0_dayBehind cX0_dayBehind 3 (some .int) :: BIG
abbrev rm_X0_dayBehind : Room := { frames := 2, cells := 0, slots := 0, locals := 44 }
noncomputable def sp_X0_dayBehind (S : (Nat → Nat → Nat → Int32)) (p1 : Int32) : Int32 := if sp_X0_greatestEnd S p1 = (-1) then ((-1)) else ((sp_X0_greatestEnd S p1) + 1)
set_option maxHeartbeats 1000000 in
set_option maxRecDepth 100000 in
theorem ct_X0_dayBehind {l : Launch} {D : va_G} {cI cG cJ cO : ClassId} {K0 : Nat → Nat} {A : Nat → Prop} {L : List (Nat × Nat)} {ad : Nat → Nat → Nat} {ce : Nat → Nat → va_E} (hL : ∀ f o, cid f o = true → (f, o) ∈ L) (S : (Nat → Nat → Nat → Int32)) (hI : CI S) (p1 : Int32) (sz : Nat) (hA : ∀ q, sz ≤ q → A q) : Met l yX0_dayBehind bw_X0_dayBehind rm_X0_dayBehind (kP D (ktys cI cG cJ cO) K0 A L ad (cK cI cJ ad ce S) sz [.ref (ad 4 0), .int p1]) (kQi D A (sp_X0_dayBehind S p1) L ad (cK cI cJ ad ce S)) 0 0 A := by
  refine Met.ofW (cc := cX0_dayBehind) (maxL := 3) (ret := (some .int)) (by decide) rfl ?_
  intro p e s m args below meth c s₁ B hml hv
  obtain ⟨hav, hsz, hP, hD, hK, hO⟩ := hv
  have hx := B.exec
  have hb := B.bytes
  have hr := B.returns
  have hts : ∀ w ∈ BIG, w.before args s = true := fun w h => atoms_spec (ws := bw_X0_dayBehind) B.pre w (List.mem_cons_of_mem _ h)
  have hown : s.vm.findClass RX0 = some m.cls := findClass_of_methodNamed B.named
  have hlocks := B.notSynchronized
  subst hsz
  have hw := wk.start hP hD
  refine k_start (by rfl) hav (Nat.le_of_ble_eq_true rfl) (fun ls hl => ?_)
  have hl : lv_has ls 3 [(0, .ref (ad 4 0)), (1, .int p1)] := hl
  have hE : sp_X0_dayBehind S p1 = sp_X0_dayBehind S p1 := rfl
  refine lv_aload_n hx hb dX0_dayBehind_0 rfl (lv_at hl 0 rfl) ?_
  refine lv_iload_n hx hb dX0_dayBehind_1 rfl (lv_at hl 1 rfl) ?_
  refine k_ci0 hw (k_rV (As := [.int p1]) (rest := []) ⟨hx, hb, hml, hown, hts⟩ hK hO hw (ct_X0_greatestEnd hL S (SF.ci (SF.rf _) hI) p1 _ (wk.hA hw hA)) (cwV 1 hts (gB_V w_ml_X0_111 w_im_X0_greatestEnd w_se_X0_greatestEnd w_in_X0 w_co_X0_greatestEnd) rfl rfl rfl (by decide +kernel) ⟨by decide, by decide⟩) (hL 4 0 rfl) cke_4 rfl rfl hl.1 rfl (Nat.le_of_ble_eq_true rfl) dX0_dayBehind_2 ⟨Nat.le_of_ble_eq_true rfl, Nat.le_of_ble_eq_true rfl⟩) (fun H locs hw => ?_)
  refine lv_istore_n (lv' := [(2, .int (sp_X0_greatestEnd S p1)), (0, .ref (ad 4 0)), (1, .int p1)]) hx hb dX0_dayBehind_5 rfl hl (by decide) rfl (fun ls hl => ?_)
  refine lv_iload_n hx hb dX0_dayBehind_6 rfl (lv_at hl 0 rfl) ?_
  refine lv_iconst (v := (-1)) hx hb dX0_dayBehind_7 (by decide) ?_
  refine lv_icmp_ne (tgt := 15) hx hb dX0_dayBehind_8 (by decide) (fun c_1 => ?_) (fun c_1 => ?_)
  · have hE := hE.trans (if_neg c_1)
    refine lv_iload_n hx hb dX0_dayBehind_15 rfl (lv_at hl 0 rfl) ?_
    refine lv_iconst (v := 1) hx hb dX0_dayBehind_16 (by decide) ?_
    refine lv_iadd hx hb dX0_dayBehind_17 ?_
    exact k_iret hx hb hr hlocks rfl hw hE rfl dX0_dayBehind_18
  · have hE := hE.trans (if_pos c_1)
    refine lv_iconst (v := (-1)) hx hb dX0_dayBehind_11 (by decide) ?_
    refine lv_goto (tgt := 18) hx hb dX0_dayBehind_12 (by decide) ?_
    exact k_iret hx hb hr hlocks rfl hw hE rfl dX0_dayBehind_18

abbrev bw_X0_beginOf : List Cond := .code yX0_beginOf cX0_beginOf 6 (some .int) :: BIG
abbrev rm_X0_beginOf : Room := { frames := 2, cells := 0, slots := 0, locals := 43 }
noncomputable def lp_X0_beginOf_77 (S : (Nat → Nat → Nat → Int32)) (j : Nat) (p2 : Int32) : Nat → Nat → Int32 → Int32
  | 0, i, v3 => if S 7 0 p2.toNatClampNeg = 2 then ((if v3 < sp_X4_dayOf S (S 27 j p2.toNatClampNeg) then sp_X4_dayOf S (S 27 j p2.toNatClampNeg) else v3)) else (if S 7 0 p2.toNatClampNeg = 1 then (sp_X0_withSupply S v3 (S 10 0 p2.toNatClampNeg)) else (v3))
  | k + 1, i, v3 => if sp_X5_has ((S 9 0 p2.toNatClampNeg) &&& (S 6 j 0)) (nI i) = 0 then (lp_X0_beginOf_77 S j p2 k (i + 1) v3) else (if S 23 0 i = (-1) then ((-1)) else (lp_X0_beginOf_77 S j p2 k (i + 1) (if v3 < (S 23 0 i) + 1 then (S 23 0 i) + 1 else v3)))
noncomputable def sp_X0_beginOf (S : (Nat → Nat → Nat → Int32)) (j : Nat) (p2 : Int32) : Int32 := if p2 < 0 then ((-1)) else (if 12 ≤ p2 then ((-1)) else (if S 6 j 2 = 0 then (if sp_X5_has (S 6 j 0) p2 = 0 then ((-1)) else (if S 24 j p2.toNatClampNeg = 0 then (lp_X0_beginOf_77 S j p2 p2.toNatClampNeg 0 (if S 4 0 0 < S 6 j 1 then S 6 j 1 else S 4 0 0)) else (S 25 j p2.toNatClampNeg))) else ((-1))))
set_option maxHeartbeats 1000000 in
set_option maxRecDepth 100000 in
theorem ct_X0_beginOf {l : Launch} {D : va_G} {cI cG cJ cO : ClassId} {K0 : Nat → Nat} {A : Nat → Prop} {L : List (Nat × Nat)} {ad : Nat → Nat → Nat} {ce : Nat → Nat → va_E} (hL : ∀ f o, cid f o = true → (f, o) ∈ L) (S : (Nat → Nat → Nat → Int32)) (hI : CI S) (j : Nat) (hj : j < 8) (p2 : Int32) (sz : Nat) (hA : ∀ q, sz ≤ q → A q) : Met l yX0_beginOf bw_X0_beginOf rm_X0_beginOf (kP D (ktys cI cG cJ cO) K0 A L ad (cK cI cJ ad ce S) sz [.ref (ad 4 0), .ref (ad 6 j), .int p2]) (kQi D A (sp_X0_beginOf S j p2) L ad (cK cI cJ ad ce S)) 0 0 A := by
  refine Met.ofW (cc := cX0_beginOf) (maxL := 6) (ret := (some .int)) (by decide) rfl ?_
  intro p e s m args below meth c s₁ B hml hv
  obtain ⟨hav, hsz, hP, hD, hK, hO⟩ := hv
  have hx := B.exec
  have hb := B.bytes
  have hr := B.returns
  have hts : ∀ w ∈ BIG, w.before args s = true := fun w h => atoms_spec (ws := bw_X0_beginOf) B.pre w (List.mem_cons_of_mem _ h)
  have hown : s.vm.findClass RX0 = some m.cls := findClass_of_methodNamed B.named
  have hlocks := B.notSynchronized
  subst hsz
  have hw := wk.start hP hD
  refine k_start (by rfl) hav (Nat.le_of_ble_eq_true rfl) (fun ls hl => ?_)
  have hl : lv_has ls 6 [(0, .ref (ad 4 0)), (1, .ref (ad 6 j)), (2, .int p2)] := hl
  have hE : sp_X0_beginOf S j p2 = sp_X0_beginOf S j p2 := rfl
  refine lv_iload_n hx hb dX0_beginOf_0 rfl (lv_at hl 2 rfl) ?_
  refine lv_if_lt (tgt := 28) hx hb dX0_beginOf_1 (by decide) (fun c_1 => ?_) (fun c_1 => ?_)
  · have hE := hE.trans (if_pos c_1)
    refine lv_iconst (v := (-1)) hx hb dX0_beginOf_28 (by decide) ?_
    exact k_iret hx hb hr hlocks rfl hw hE rfl dX0_beginOf_29
  · have hE := hE.trans (if_neg c_1)
    refine lv_iload_n hx hb dX0_beginOf_4 rfl (lv_at hl 2 rfl) ?_
    refine lv_bipush (v := 12) hx hb dX0_beginOf_5 (by decide) ?_
    refine lv_icmp_ge (tgt := 28) hx hb dX0_beginOf_7 (by decide) (fun c_2 => ?_) (fun c_2 => ?_)
    · have hE := hE.trans (if_pos c_2)
      refine lv_iconst (v := (-1)) hx hb dX0_beginOf_28 (by decide) ?_
      exact k_iret hx hb hr hlocks rfl hw hE rfl dX0_beginOf_29
    · have hE := hE.trans (if_neg c_2)
      refine lv_aload_n hx hb dX0_beginOf_10 rfl (lv_at hl 1 rfl) ?_
      refine k_get (C := RX1) (T := TX1) (N := 8) (v := .int (S 6 j 2)) hx hb hts inB_X1 hown hK hw (hL 6 j (cidJ6 hj)) cke_6 rfl 7 (by decide) (hts _ w_f_X0_64) (fun _ h9 => h9) rfl dX0_beginOf_11 ?_
      refine lv_if_ne (tgt := 28) hx hb dX0_beginOf_14 (by decide) (fun c_3 => ?_) (fun c_3 => ?_)
      · have hE := hE.trans (if_neg c_3)
        refine lv_iconst (v := (-1)) hx hb dX0_beginOf_28 (by decide) ?_
        exact k_iret hx hb hr hlocks rfl hw hE rfl dX0_beginOf_29
      · have hE := hE.trans (if_pos c_3)
        refine lv_aload_n hx hb dX0_beginOf_17 rfl (lv_at hl 1 rfl) ?_
        refine k_get (C := RX1) (T := TX1) (N := 8) (v := .int (S 6 j 0)) hx hb hts inB_X1 hown hK hw (hL 6 j (cidJ6 hj)) cke_6 rfl 5 (by decide) (hts _ w_f_X0_70) (fun _ h9 => h9) rfl dX0_beginOf_18 ?_
        refine lv_iload_n hx hb dX0_beginOf_21 rfl (lv_at hl 2 rfl) ?_
        refine k_ci0 hw (k_rSN (As := [.int (S 6 j 0), .int p2]) (rest := []) ⟨hx, hb, hml, hown, hts⟩ hK hO hw (ct_X5_has (S 6 j 0) p2 _ (wk.hA hw hA)) (⟨va_cnB 2 hts (gB_0 w_co_X5_has) rfl rfl rfl (hO.2.2.1 _ w_mn_X0_73) (hts _ w_in_X5) (by decide +kernel) ⟨by decide, by decide⟩, hts _ w_st_X5_has, trivial⟩) rfl hl.1 rfl (Nat.le_of_ble_eq_true rfl) dX0_beginOf_22 ⟨Nat.le_of_ble_eq_true rfl, Nat.le_of_ble_eq_true rfl⟩) (fun H locs hw => ?_)
        refine lv_if_ne (tgt := 30) hx hb dX0_beginOf_25 (by decide) (fun c_4 => ?_) (fun c_4 => ?_)
        · have hE := hE.trans (if_neg c_4)
          refine lv_aload_n hx hb dX0_beginOf_30 rfl (lv_at hl 1 rfl) ?_
          refine k_get (C := RX1) (T := TX1) (N := 8) (v := .ref (ad 24 j)) hx hb hts inB_X1 hown hK hw (hL 6 j (cidJ6 hj)) cke_6 rfl 0 (by decide) (hts _ w_f_X0_77) (fun _ h9 => h9) rfl dX0_beginOf_31 ?_
          refine lv_iload_n hx hb dX0_beginOf_34 rfl (lv_at hl 2 rfl) ?_
          refine k_ald hx hb hK hw (hL 24 j (cidJ24 hj)) 0 cke_24 rfl (k_in c_1 c_2 (by decide)) dX0_beginOf_35 ?_
          refine lv_if_eq (tgt := 46) hx hb dX0_beginOf_36 (by decide) (fun c_5 => ?_) (fun c_5 => ?_)
          · have hE := hE.trans (if_pos c_5)
            refine lv_aload_n hx hb dX0_beginOf_46 rfl (lv_at hl 0 rfl) ?_
            refine k_get (C := RX0) (T := TX0) (N := 7) (v := .int (S 4 0 0)) hx hb hts inB_X0 hown hK hw (hL 4 0 rfl) cke_4 rfl 6 (by decide) (hts _ w_f_X0_41) (fun _ h9 => h9) rfl dX0_beginOf_47 ?_
            refine lv_aload_n hx hb dX0_beginOf_50 rfl (lv_at hl 1 rfl) ?_
            refine k_get (C := RX1) (T := TX1) (N := 8) (v := .int (S 6 j 1)) hx hb hts inB_X1 hown hK hw (hL 6 j (cidJ6 hj)) cke_6 rfl 6 (by decide) (hts _ w_f_X0_81) (fun _ h9 => h9) rfl dX0_beginOf_51 ?_
            refine va_mmax hx hb (hml.trans hl.1.symm) hown (hts _ w_ml_X0_84) (hts _ w_st_max) (hts _ w_in_J9) (hts _ w_co_max) (by decide) (Nat.le_of_ble_eq_true rfl) (Nat.zero_le _) (Nat.zero_le _) dX0_beginOf_54 ?_
            refine lv_istore_n (lv' := [(3, .int (if S 4 0 0 < S 6 j 1 then S 6 j 1 else S 4 0 0)), (0, .ref (ad 4 0)), (1, .ref (ad 6 j)), (2, .int p2)]) hx hb dX0_beginOf_57 rfl hl (by decide) rfl (fun ls hl => ?_)
            refine lv_aload_n hx hb dX0_beginOf_58 rfl (lv_at hl 1 rfl) ?_
            refine k_get (C := RX0) (T := TX0) (N := 7) (v := .ref (ad 1 0)) hx hb hts inB_X0 hown hK hw (hL 4 0 rfl) cke_4 rfl 0 (by decide) (hts _ w_f_X0_21) (fun _ h9 => h9) rfl dX0_beginOf_59 ?_
            refine k_get (C := RX2) (T := TX2) (N := 8) (v := .ref (ad 9 0)) hx hb hts inB_X2 hown hK hw (hL 1 0 rfl) cke_1 rfl 2 (by decide) (hts _ w_f_X0_90) (fun _ h9 => h9) rfl dX0_beginOf_62 ?_
            refine lv_iload_n hx hb dX0_beginOf_65 rfl (lv_at hl 3 rfl) ?_
            refine k_ald hx hb hK hw (hL 9 0 rfl) 0 cke_9 rfl (k_in c_1 c_2 (by decide)) dX0_beginOf_66 ?_
            refine lv_aload_n hx hb dX0_beginOf_67 rfl (lv_at hl 2 rfl) ?_
            refine k_get (C := RX1) (T := TX1) (N := 8) (v := .int (S 6 j 0)) hx hb hts inB_X1 hown hK hw (hL 6 j (cidJ6 hj)) cke_6 rfl 5 (by decide) (hts _ w_f_X0_70) (fun _ h9 => h9) rfl dX0_beginOf_68 ?_
            refine lv_iand hx hb dX0_beginOf_71 ?_
            refine lv_istore (lv' := [(4, .int ((S 9 0 p2.toNatClampNeg) &&& (S 6 j 0))), (3, .int (if S 4 0 0 < S 6 j 1 then S 6 j 1 else S 4 0 0)), (0, .ref (ad 4 0)), (1, .ref (ad 6 j)), (2, .int p2)]) hx hb dX0_beginOf_72 hl (by decide) rfl (fun ls hl => ?_)
            refine lv_iconst (v := 0) hx hb dX0_beginOf_74 (by decide) ?_
            refine lv_istore (lv' := [(5, .int 0), (4, .int ((S 9 0 p2.toNatClampNeg) &&& (S 6 j 0))), (3, .int (if S 4 0 0 < S 6 j 1 then S 6 j 1 else S 4 0 0)), (0, .ref (ad 4 0)), (1, .ref (ad 6 j)), (2, .int p2)]) hx hb dX0_beginOf_75 hl (by decide) rfl (fun ls hl => ?_)
            have key_77 : ∀ (k i : Nat) (v3 : Int32) (H : Heap) (locs : List Loc) (ls : Array Slot), i + k = p2.toNatClampNeg → sp_X0_beginOf S j p2 = lp_X0_beginOf_77 S j p2 k i v3 → wk D A L ad (cK cI cJ ad ce S) s.heap H locs → lv_has ls 6 [(0, .ref (ad 4 0)), (1, .ref (ad 6 j)), (2, .int p2), (3, .int v3), (4, .int ((S 9 0 p2.toNatClampNeg) &&& (S 6 j 0))), (5, .int (nI i))] → W p l e (headSpec bw_X0_beginOf rm_X0_beginOf).room s m args below meth c H locs 0 0 (MQ below (kQi D A (sp_X0_beginOf S j p2) L ad (cK cI cJ ad ce S)) args s 0 0 A) (F0 m 77 ls []) := by
              intro k
              induction k with
              | zero =>
                intro i v3 H locs ls hk hE hw hl
                refine lv_iload hx hb dX0_beginOf_77 (lv_at hl 5 rfl) ?_
                refine lv_iload_n hx hb dX0_beginOf_79 rfl (lv_at hl 2 rfl) ?_
                refine lv_icmp_ge (tgt := 126) hx hb dX0_beginOf_80 (by decide) (fun _ => ?_) (fun h => absurd (lp_o (cn_nn c_1) hk (cn_lt _)) h)
                refine lv_aload_n hx hb dX0_beginOf_126 rfl (lv_at hl 0 rfl) ?_
                refine k_get (C := RX0) (T := TX0) (N := 7) (v := .ref (ad 1 0)) hx hb hts inB_X0 hown hK hw (hL 4 0 rfl) cke_4 rfl 0 (by decide) (hts _ w_f_X0_21) (fun _ h9 => h9) rfl dX0_beginOf_127 ?_
                refine k_get (C := RX2) (T := TX2) (N := 8) (v := .ref (ad 7 0)) hx hb hts inB_X2 hown hK hw (hL 1 0 rfl) cke_1 rfl 0 (by decide) (hts _ w_f_X0_93) (fun _ h9 => h9) rfl dX0_beginOf_130 ?_
                refine lv_iload_n hx hb dX0_beginOf_133 rfl (lv_at hl 2 rfl) ?_
                refine k_ald hx hb hK hw (hL 7 0 rfl) 0 cke_7 rfl (k_in c_1 c_2 (by decide)) dX0_beginOf_134 ?_
                refine lv_iconst (v := 2) hx hb dX0_beginOf_135 (by decide) ?_
                refine lv_icmp_ne (tgt := 157) hx hb dX0_beginOf_136 (by decide) (fun c_6 => ?_) (fun c_6 => ?_)
                · have hE := hE.trans (if_neg c_6)
                  refine lv_aload_n hx hb dX0_beginOf_157 rfl (lv_at hl 0 rfl) ?_
                  refine k_get (C := RX0) (T := TX0) (N := 7) (v := .ref (ad 1 0)) hx hb hts inB_X0 hown hK hw (hL 4 0 rfl) cke_4 rfl 0 (by decide) (hts _ w_f_X0_21) (fun _ h9 => h9) rfl dX0_beginOf_158 ?_
                  refine k_get (C := RX2) (T := TX2) (N := 8) (v := .ref (ad 7 0)) hx hb hts inB_X2 hown hK hw (hL 1 0 rfl) cke_1 rfl 0 (by decide) (hts _ w_f_X0_93) (fun _ h9 => h9) rfl dX0_beginOf_161 ?_
                  refine lv_iload_n hx hb dX0_beginOf_164 rfl (lv_at hl 2 rfl) ?_
                  refine k_ald hx hb hK hw (hL 7 0 rfl) 0 cke_7 rfl (k_in c_1 c_2 (by decide)) dX0_beginOf_165 ?_
                  refine lv_iconst (v := 1) hx hb dX0_beginOf_166 (by decide) ?_
                  refine lv_icmp_ne (tgt := 187) hx hb dX0_beginOf_167 (by decide) (fun c_7 => ?_) (fun c_7 => ?_)
                  · have hE := hE.trans (if_neg c_7)
                    refine lv_iload_n hx hb dX0_beginOf_187 rfl (lv_at hl 3 rfl) ?_
                    exact k_iret hx hb hr hlocks rfl hw hE rfl dX0_beginOf_188
                  · have hE := hE.trans (if_pos c_7)
                    refine lv_aload_n hx hb dX0_beginOf_170 rfl (lv_at hl 0 rfl) ?_
                    refine lv_iload_n hx hb dX0_beginOf_171 rfl (lv_at hl 3 rfl) ?_
                    refine lv_aload_n hx hb dX0_beginOf_172 rfl (lv_at hl 0 rfl) ?_
                    refine k_get (C := RX0) (T := TX0) (N := 7) (v := .ref (ad 1 0)) hx hb hts inB_X0 hown hK hw (hL 4 0 rfl) cke_4 rfl 0 (by decide) (hts _ w_f_X0_21) (fun _ h9 => h9) rfl dX0_beginOf_173 ?_
                    refine k_get (C := RX2) (T := TX2) (N := 8) (v := .ref (ad 10 0)) hx hb hts inB_X2 hown hK hw (hL 1 0 rfl) cke_1 rfl 3 (by decide) (hts _ w_f_X0_105) (fun _ h9 => h9) rfl dX0_beginOf_176 ?_
                    refine lv_iload_n hx hb dX0_beginOf_179 rfl (lv_at hl 2 rfl) ?_
                    refine k_ald hx hb hK hw (hL 10 0 rfl) 0 cke_10 rfl (k_in c_1 c_2 (by decide)) dX0_beginOf_180 ?_
                    refine k_ci0 hw (k_rV (As := [.int v3, .int (S 10 0 p2.toNatClampNeg)]) (rest := []) ⟨hx, hb, hml, hown, hts⟩ hK hO hw (ct_X0_withSupply hL S (SF.ci (SF.rf _) hI) v3 (S 10 0 p2.toNatClampNeg) _ (wk.hA hw hA)) (cwV 2 hts (gB_V w_ml_X0_108 w_im_X0_withSupply w_se_X0_withSupply w_in_X0 w_co_X0_withSupply) rfl rfl rfl (by decide +kernel) ⟨by decide, by decide⟩) (hL 4 0 rfl) cke_4 rfl rfl hl.1 rfl (Nat.le_of_ble_eq_true rfl) dX0_beginOf_181 ⟨Nat.le_of_ble_eq_true rfl, Nat.le_of_ble_eq_true rfl⟩) (fun H locs hw => ?_)
                    refine lv_goto (tgt := 188) hx hb dX0_beginOf_184 (by decide) ?_
                    exact k_iret hx hb hr hlocks rfl hw hE rfl dX0_beginOf_188
                · have hE := hE.trans (if_pos c_6)
                  refine lv_iload_n hx hb dX0_beginOf_139 rfl (lv_at hl 3 rfl) ?_
                  refine lv_aload_n hx hb dX0_beginOf_140 rfl (lv_at hl 0 rfl) ?_
                  refine k_get (C := RX0) (T := TX0) (N := 7) (v := .ref (ad 3 0)) hx hb hts inB_X0 hown hK hw (hL 4 0 rfl) cke_4 rfl 2 (by decide) (hts _ w_f_X0_29) (fun _ h9 => h9) rfl dX0_beginOf_141 ?_
                  refine lv_aload_n hx hb dX0_beginOf_144 rfl (lv_at hl 1 rfl) ?_
                  refine k_get (C := RX1) (T := TX1) (N := 8) (v := .ref (ad 27 j)) hx hb hts inB_X1 hown hK hw (hL 6 j (cidJ6 hj)) cke_6 rfl 3 (by decide) (hts _ w_f_X0_96) (fun _ h9 => h9) rfl dX0_beginOf_145 ?_
                  refine lv_iload_n hx hb dX0_beginOf_148 rfl (lv_at hl 2 rfl) ?_
                  refine k_ald hx hb hK hw (hL 27 j (cidJ27 hj)) 0 cke_27 rfl (k_in c_1 c_2 (by decide)) dX0_beginOf_149 ?_
                  refine k_ci0 hw (k_rV (As := [.int (S 27 j p2.toNatClampNeg)]) (rest := [.int v3]) ⟨hx, hb, hml, hown, hts⟩ hK hO hw (ct_X4_dayOf hL S (SF.ci (SF.rf _) hI) (S 27 j p2.toNatClampNeg) _ (wk.hA hw hA)) (cwV 1 hts (gB_V w_ml_X0_99 w_im_X4_dayOf w_se_X4_dayOf w_in_X4 w_co_X4_dayOf) rfl rfl rfl (by decide +kernel) ⟨by decide, by decide⟩) (hL 3 0 rfl) cke_3 rfl rfl hl.1 rfl (Nat.le_of_ble_eq_true rfl) dX0_beginOf_150 ⟨Nat.le_of_ble_eq_true rfl, Nat.le_of_ble_eq_true rfl⟩) (fun H locs hw => ?_)
                  refine va_mmax hx hb (hml.trans hl.1.symm) hown (hts _ w_ml_X0_84) (hts _ w_st_max) (hts _ w_in_J9) (hts _ w_co_max) (by decide) (Nat.le_of_ble_eq_true rfl) (Nat.zero_le _) (Nat.zero_le _) dX0_beginOf_153 ?_
                  exact k_iret hx hb hr hlocks rfl hw hE rfl dX0_beginOf_156
              | succ k ih =>
                intro i v3 H locs ls hk hE hw hl
                refine lv_iload hx hb dX0_beginOf_77 (lv_at hl 5 rfl) ?_
                refine lv_iload_n hx hb dX0_beginOf_79 rfl (lv_at hl 2 rfl) ?_
                refine lv_icmp_ge (tgt := 126) hx hb dX0_beginOf_80 (by decide) (fun h => absurd h (lp_i (cn_nn c_1) hk (cn_lt _))) (fun _ => ?_)
                refine lv_iload hx hb dX0_beginOf_83 (lv_at hl 4 rfl) ?_
                refine lv_iload hx hb dX0_beginOf_85 (lv_at hl 5 rfl) ?_
                refine k_ci0 hw (k_rSN (As := [.int ((S 9 0 p2.toNatClampNeg) &&& (S 6 j 0)), .int (nI i)]) (rest := []) ⟨hx, hb, hml, hown, hts⟩ hK hO hw (ct_X5_has ((S 9 0 p2.toNatClampNeg) &&& (S 6 j 0)) (nI i) _ (wk.hA hw hA)) (⟨va_cnB 2 hts (gB_0 w_co_X5_has) rfl rfl rfl (hO.2.2.1 _ w_mn_X0_73) (hts _ w_in_X5) (by decide +kernel) ⟨by decide, by decide⟩, hts _ w_st_X5_has, trivial⟩) rfl hl.1 rfl (Nat.le_of_ble_eq_true rfl) dX0_beginOf_87 ⟨Nat.le_of_ble_eq_true rfl, Nat.le_of_ble_eq_true rfl⟩) (fun H locs hw => ?_)
                refine lv_if_eq (tgt := 120) hx hb dX0_beginOf_90 (by decide) (fun c_8 => ?_) (fun c_8 => ?_)
                · have hE := hE.trans (if_pos c_8)
                  refine lv_iinc (v := (nI (i + 1))) (lv' := [(5, .int (nI (i + 1))), (0, .ref (ad 4 0)), (1, .ref (ad 6 j)), (2, .int p2), (3, .int v3), (4, .int ((S 9 0 p2.toNatClampNeg) &&& (S 6 j 0)))]) hx hb dX0_beginOf_120 hl (k := 5) rfl (nI_1 _) (by decide) rfl (fun ls hl => ?_)
                  refine lv_goto (tgt := 77) hx hb dX0_beginOf_123 (by decide) ?_
                  exact ih (i + 1) v3 _ _ _ (lp_s hk) hE hw (lv_sub hl [1, 2, 3, 4, 5, 0] rfl)
                · have hE := hE.trans (if_neg c_8)
                  refine lv_aload_n hx hb dX0_beginOf_93 rfl (lv_at hl 0 rfl) ?_
                  refine k_get (C := RX0) (T := TX0) (N := 7) (v := .ref (ad 23 0)) hx hb hts inB_X0 hown hK hw (hL 4 0 rfl) cke_4 rfl 5 (by decide) (hts _ w_f_X0_18) (fun _ h9 => h9) rfl dX0_beginOf_94 ?_
                  refine lv_iload hx hb dX0_beginOf_97 (lv_at hl 5 rfl) ?_
                  refine k_aldn hx hb hK hw (hL 23 0 rfl) 0 cke_23 rfl (Nat.lt_of_lt_of_le (lp_l hk) (Nat.le_of_lt (k_lt (k_in c_1 c_2 (by decide))))) (by decide) dX0_beginOf_99 ?_
                  refine lv_iconst (v := (-1)) hx hb dX0_beginOf_100 (by decide) ?_
                  refine lv_icmp_ne (tgt := 106) hx hb dX0_beginOf_101 (by decide) (fun c_9 => ?_) (fun c_9 => ?_)
                  · have hE := hE.trans (if_neg c_9)
                    refine lv_iload_n hx hb dX0_beginOf_106 rfl (lv_at hl 3 rfl) ?_
                    refine lv_aload_n hx hb dX0_beginOf_107 rfl (lv_at hl 0 rfl) ?_
                    refine k_get (C := RX0) (T := TX0) (N := 7) (v := .ref (ad 23 0)) hx hb hts inB_X0 hown hK hw (hL 4 0 rfl) cke_4 rfl 5 (by decide) (hts _ w_f_X0_18) (fun _ h9 => h9) rfl dX0_beginOf_108 ?_
                    refine lv_iload hx hb dX0_beginOf_111 (lv_at hl 5 rfl) ?_
                    refine k_aldn hx hb hK hw (hL 23 0 rfl) 0 cke_23 rfl (Nat.lt_of_lt_of_le (lp_l hk) (Nat.le_of_lt (k_lt (k_in c_1 c_2 (by decide))))) (by decide) dX0_beginOf_113 ?_
                    refine lv_iconst (v := 1) hx hb dX0_beginOf_114 (by decide) ?_
                    refine lv_iadd hx hb dX0_beginOf_115 ?_
                    refine va_mmax hx hb (hml.trans hl.1.symm) hown (hts _ w_ml_X0_84) (hts _ w_st_max) (hts _ w_in_J9) (hts _ w_co_max) (by decide) (Nat.le_of_ble_eq_true rfl) (Nat.zero_le _) (Nat.zero_le _) dX0_beginOf_116 ?_
                    refine lv_istore_n (lv' := [(3, .int (if v3 < (S 23 0 i) + 1 then (S 23 0 i) + 1 else v3)), (0, .ref (ad 4 0)), (1, .ref (ad 6 j)), (2, .int p2), (4, .int ((S 9 0 p2.toNatClampNeg) &&& (S 6 j 0))), (5, .int (nI i))]) hx hb dX0_beginOf_119 rfl hl (by decide) rfl (fun ls hl => ?_)
                    refine lv_iinc (v := (nI (i + 1))) (lv' := [(5, .int (nI (i + 1))), (3, .int (if v3 < (S 23 0 i) + 1 then (S 23 0 i) + 1 else v3)), (0, .ref (ad 4 0)), (1, .ref (ad 6 j)), (2, .int p2), (4, .int ((S 9 0 p2.toNatClampNeg) &&& (S 6 j 0)))]) hx hb dX0_beginOf_120 hl (k := 5) rfl (nI_1 _) (by decide) rfl (fun ls hl => ?_)
                    refine lv_goto (tgt := 77) hx hb dX0_beginOf_123 (by decide) ?_
                    exact ih (i + 1) (if v3 < (S 23 0 i) + 1 then (S 23 0 i) + 1 else v3) _ _ _ (lp_s hk) hE hw (lv_sub hl [2, 3, 4, 1, 5, 0] rfl)
                  · have hE := hE.trans (if_pos c_9)
                    refine lv_iconst (v := (-1)) hx hb dX0_beginOf_104 (by decide) ?_
                    exact k_iret hx hb hr hlocks rfl hw hE rfl dX0_beginOf_105
            exact key_77 p2.toNatClampNeg 0 (if S 4 0 0 < S 6 j 1 then S 6 j 1 else S 4 0 0) _ _ _ (Nat.zero_add _) hE hw (lv_sub hl [3, 4, 5, 2, 1, 0] rfl)
          · have hE := hE.trans (if_neg c_5)
            refine lv_aload_n hx hb dX0_beginOf_39 rfl (lv_at hl 1 rfl) ?_
            refine k_get (C := RX1) (T := TX1) (N := 8) (v := .ref (ad 25 j)) hx hb hts inB_X1 hown hK hw (hL 6 j (cidJ6 hj)) cke_6 rfl 1 (by decide) (hts _ w_f_X0_80) (fun _ h9 => h9) rfl dX0_beginOf_40 ?_
            refine lv_iload_n hx hb dX0_beginOf_43 rfl (lv_at hl 2 rfl) ?_
            refine k_ald hx hb hK hw (hL 25 j (cidJ25 hj)) 0 cke_25 rfl (k_in c_1 c_2 (by decide)) dX0_beginOf_44 ?_
            exact k_iret hx hb hr hlocks rfl hw hE rfl dX0_beginOf_45
        · have hE := hE.trans (if_pos c_4)
          refine lv_iconst (v := (-1)) hx hb dX0_beginOf_28 (by decide) ?_
          exact k_iret hx hb hr hlocks rfl hw hE rfl dX0_beginOf_29

abbrev bw_X0_foreseeStep : List Cond := .code yX0_foreseeStep cX0_foreseeStep 4 none :: BIG
abbrev rm_X0_foreseeStep : Room := { frames := 3, cells := 0, slots := 0, locals := 68 }
noncomputable def rw_X0_foreseeStep (S : (Nat → Nat → Nat → Int32)) (j : Nat) (p2 : Int32) : (Nat → Nat → Nat → Int32) := if p2 < 0 then (S) else (if p2 < 12 then (if sp_X0_beginOf S j p2 = (-1) then ((up3 (up3 S 22 0 p2.toNatClampNeg (sp_X0_beginOf S j p2)) 23 0 p2.toNatClampNeg (-1))) else ((up3 (up3 S 22 0 p2.toNatClampNeg (sp_X0_beginOf S j p2)) 23 0 p2.toNatClampNeg (((sp_X0_beginOf S j p2) + (sp_X2_lengthFor (up3 S 22 0 p2.toNatClampNeg (sp_X0_beginOf S j p2)) j p2)) - 1)))) else (S))
/-- sealed: it unfolds by un_ alone -/
noncomputable def sp_X0_foreseeStep : (Nat → Nat → Nat → Int32) → Nat → Int32 → ((Nat → Nat → Nat → Int32)) := Classical.choose (⟨rw_X0_foreseeStep, rfl⟩ : ∃ f, f = rw_X0_foreseeStep)
theorem un_X0_foreseeStep (S : (Nat → Nat → Nat → Int32)) (j : Nat) (p2 : Int32) : sp_X0_foreseeStep S j p2 = rw_X0_foreseeStep S j p2 := (congrFun (congrFun (congrFun (Classical.choose_spec (⟨rw_X0_foreseeStep, rfl⟩ : ∃ f, f = rw_X0_foreseeStep)) S) j) p2)
theorem sf_X0_foreseeStep (S : (Nat → Nat → Nat → Int32)) (j : Nat) (p2 : Int32) : SF S (sp_X0_foreseeStep S j p2) := by
  rw [un_X0_foreseeStep]
  unfold rw_X0_foreseeStep
  by_cases q_4 : p2 < 0
  · rw [if_pos q_4]
    exact (SF.rf _)
  · rw [if_neg q_4]
    by_cases q_5 : p2 < 12
    · rw [if_pos q_5]
      by_cases q_6 : sp_X0_beginOf S j p2 = (-1)
      · rw [if_pos q_6]
        exact (SF.up (by decide) (SF.up (by decide) (SF.rf _)))
      · rw [if_neg q_6]
        exact (SF.up (by decide) (SF.up (by decide) (SF.rf _)))
    · rw [if_neg q_5]
      exact (SF.rf _)

set_option maxHeartbeats 1000000 in
set_option maxRecDepth 100000 in
theorem ct_X0_foreseeStep {l : Launch} {D : va_G} {cI cG cJ cO : ClassId} {K0 : Nat → Nat} {A : Nat → Prop} {L : List (Nat × Nat)} {ad : Nat → Nat → Nat} {ce : Nat → Nat → va_E} (hL : ∀ f o, cid f o = true → (f, o) ∈ L) (S : (Nat → Nat → Nat → Int32)) (hI : CI S) (j : Nat) (hj : j < 8) (p2 : Int32) (sz : Nat) (hA : ∀ q, sz ≤ q → A q) : Met l yX0_foreseeStep bw_X0_foreseeStep rm_X0_foreseeStep (kP D (ktys cI cG cJ cO) K0 A L ad (cK cI cJ ad ce S) sz [.ref (ad 4 0), .ref (ad 6 j), .int p2]) (kQv D A L ad (cK cI cJ ad ce (sp_X0_foreseeStep S j p2))) 0 0 A := by
  refine Met.ofW (cc := cX0_foreseeStep) (maxL := 4) (ret := none) (by decide) rfl ?_
  intro p e s m args below meth c s₁ B hml hv
  obtain ⟨hav, hsz, hP, hD, hK, hO⟩ := hv
  have hx := B.exec
  have hb := B.bytes
  have hr := B.returns
  have hts : ∀ w ∈ BIG, w.before args s = true := fun w h => atoms_spec (ws := bw_X0_foreseeStep) B.pre w (List.mem_cons_of_mem _ h)
  have hown : s.vm.findClass RX0 = some m.cls := findClass_of_methodNamed B.named
  have hlocks := B.notSynchronized
  subst hsz
  have hw := wk.start hP hD
  refine k_start (by rfl) hav (Nat.le_of_ble_eq_true rfl) (fun ls hl => ?_)
  have hl : lv_has ls 4 [(0, .ref (ad 4 0)), (1, .ref (ad 6 j)), (2, .int p2)] := hl
  have hE : sp_X0_foreseeStep S j p2 = rw_X0_foreseeStep S j p2 := un_X0_foreseeStep S j p2
  refine lv_iload_n hx hb dX0_foreseeStep_0 rfl (lv_at hl 2 rfl) ?_
  refine lv_if_lt (tgt := 10) hx hb dX0_foreseeStep_1 (by decide) (fun c_1 => ?_) (fun c_1 => ?_)
  · have hE := hE.trans (if_pos c_1)
    exact k_vretE hx hb hr hlocks hw hE dX0_foreseeStep_10
  · have hE := hE.trans (if_neg c_1)
    refine lv_iload_n hx hb dX0_foreseeStep_4 rfl (lv_at hl 2 rfl) ?_
    refine lv_bipush (v := 12) hx hb dX0_foreseeStep_5 (by decide) ?_
    refine lv_icmp_lt (tgt := 11) hx hb dX0_foreseeStep_7 (by decide) (fun c_2 => ?_) (fun c_2 => ?_)
    · have hE := hE.trans (if_pos c_2)
      refine lv_aload_n hx hb dX0_foreseeStep_11 rfl (lv_at hl 0 rfl) ?_
      refine lv_aload_n hx hb dX0_foreseeStep_12 rfl (lv_at hl 1 rfl) ?_
      refine lv_iload_n hx hb dX0_foreseeStep_13 rfl (lv_at hl 2 rfl) ?_
      refine k_ci0 hw (k_rV (As := [.ref (ad 6 j), .int p2]) (rest := []) ⟨hx, hb, hml, hown, hts⟩ hK hO hw (ct_X0_beginOf hL S (SF.ci (SF.rf _) hI) j hj p2 _ (wk.hA hw hA)) (cwV 2 hts (gB_V w_ml_X0_55 w_im_X0_beginOf w_se_X0_beginOf w_in_X0 w_co_X0_beginOf) rfl rfl rfl (by decide +kernel) ⟨by decide, by decide⟩) (hL 4 0 rfl) cke_4 rfl rfl hl.1 rfl (Nat.le_of_ble_eq_true rfl) dX0_foreseeStep_14 ⟨Nat.le_of_ble_eq_true rfl, Nat.le_of_ble_eq_true rfl⟩) (fun H locs hw => ?_)
      refine lv_istore_n (lv' := [(3, .int (sp_X0_beginOf S j p2)), (0, .ref (ad 4 0)), (1, .ref (ad 6 j)), (2, .int p2)]) hx hb dX0_foreseeStep_17 rfl hl (by decide) rfl (fun ls hl => ?_)
      refine lv_aload_n hx hb dX0_foreseeStep_18 rfl (lv_at hl 1 rfl) ?_
      refine k_get (C := RX0) (T := TX0) (N := 7) (v := .ref (ad 22 0)) hx hb hts inB_X0 hown hK hw (hL 4 0 rfl) cke_4 rfl 4 (by decide) (hts _ w_f_X0_15) (fun _ h9 => h9) rfl dX0_foreseeStep_19 ?_
      refine lv_iload_n hx hb dX0_foreseeStep_22 rfl (lv_at hl 3 rfl) ?_
      refine lv_iload_n hx hb dX0_foreseeStep_23 rfl (lv_at hl 0 rfl) ?_
      refine k_ast hx hb hK hw (hL 22 0 rfl) 0 cke_22 rfl (k_in' c_1 c_2 (by decide)) (cK_up (i := p2.toNatClampNeg) (x := (sp_X0_beginOf S j p2)) (by decide) rfl) dX0_foreseeStep_24 (fun H locs hw => ?_)
      refine lv_aload_n hx hb dX0_foreseeStep_25 rfl (lv_at hl 1 rfl) ?_
      refine k_get (C := RX0) (T := TX0) (N := 7) (v := .ref (ad 23 0)) hx hb hts inB_X0 hown hK hw (hL 4 0 rfl) cke_4 rfl 5 (by decide) (hts _ w_f_X0_18) (fun _ h9 => h9) rfl dX0_foreseeStep_26 ?_
      refine lv_iload_n hx hb dX0_foreseeStep_29 rfl (lv_at hl 3 rfl) ?_
      refine lv_iload_n hx hb dX0_foreseeStep_30 rfl (lv_at hl 0 rfl) ?_
      refine lv_iconst (v := (-1)) hx hb dX0_foreseeStep_31 (by decide) ?_
      refine lv_icmp_ne (tgt := 39) hx hb dX0_foreseeStep_32 (by decide) (fun c_3 => ?_) (fun c_3 => ?_)
      · have hE := hE.trans (if_neg c_3)
        refine lv_iload_n hx hb dX0_foreseeStep_39 rfl (lv_at hl 0 rfl) ?_
        refine lv_aload_n hx hb dX0_foreseeStep_40 rfl (lv_at hl 1 rfl) ?_
        refine k_get (C := RX0) (T := TX0) (N := 7) (v := .ref (ad 1 0)) hx hb hts inB_X0 hown hK hw (hL 4 0 rfl) cke_4 rfl 0 (by decide) (hts _ w_f_X0_21) (fun _ h9 => h9) rfl dX0_foreseeStep_41 ?_
        refine lv_aload_n hx hb dX0_foreseeStep_44 rfl (lv_at hl 2 rfl) ?_
        refine lv_iload_n hx hb dX0_foreseeStep_45 rfl (lv_at hl 3 rfl) ?_
        refine k_ci0 hw (k_rV (As := [.ref (ad 6 j), .int p2]) (rest := [.int (sp_X0_beginOf S j p2), .int p2, .ref (ad 23 0)]) ⟨hx, hb, hml, hown, hts⟩ hK hO hw (ct_X2_lengthFor hL (up3 S 22 0 p2.toNatClampNeg (sp_X0_beginOf S j p2)) (SF.ci (SF.up (by decide) (SF.rf _)) hI) j hj p2 _ (wk.hA hw hA)) (cwV 2 hts (gB_V w_ml_X0_59 w_im_X2_lengthFor w_se_X2_lengthFor w_in_X2 w_co_X2_lengthFor) rfl rfl rfl (by decide +kernel) ⟨by decide, by decide⟩) (hL 1 0 rfl) cke_1 rfl rfl hl.1 rfl (Nat.le_of_ble_eq_true rfl) dX0_foreseeStep_46 ⟨Nat.le_of_ble_eq_true rfl, Nat.le_of_ble_eq_true rfl⟩) (fun H locs hw => ?_)
        refine lv_iadd hx hb dX0_foreseeStep_49 ?_
        refine lv_iconst (v := 1) hx hb dX0_foreseeStep_50 (by decide) ?_
        refine lv_isub hx hb dX0_foreseeStep_51 ?_
        refine k_ast hx hb hK hw (hL 23 0 rfl) 0 cke_23 rfl (k_in' c_1 c_2 (by decide)) (cK_up (i := p2.toNatClampNeg) (x := (((sp_X0_beginOf S j p2) + (sp_X2_lengthFor (up3 S 22 0 p2.toNatClampNeg (sp_X0_beginOf S j p2)) j p2)) - 1)) (by decide) rfl) dX0_foreseeStep_52 (fun H locs hw => ?_)
        exact k_vretE hx hb hr hlocks hw hE dX0_foreseeStep_53
      · have hE := hE.trans (if_pos c_3)
        refine lv_iconst (v := (-1)) hx hb dX0_foreseeStep_35 (by decide) ?_
        refine lv_goto (tgt := 52) hx hb dX0_foreseeStep_36 (by decide) ?_
        refine k_ast hx hb hK hw (hL 23 0 rfl) 0 cke_23 rfl (k_in' c_1 c_2 (by decide)) (cK_up (i := p2.toNatClampNeg) (x := (-1)) (by decide) rfl) dX0_foreseeStep_52 (fun H locs hw => ?_)
        exact k_vretE hx hb hr hlocks hw hE dX0_foreseeStep_53
    · have hE := hE.trans (if_neg c_2)
      exact k_vretE hx hb hr hlocks hw hE dX0_foreseeStep_10

abbrev bw_X0_foresee : List Cond := .code yX0_foresee cX0_foresee 6 none :: BIG
abbrev rm_X0_foresee : Room := { frames := 4, cells := 0, slots := 0, locals := 91 }
noncomputable def lp_X0_foresee_11 (j : Nat) (p2 : Int32) (p3 : Int32) (p4 : Int32) : Nat → Nat → (Nat → Nat → Nat → Int32) → (Nat → Nat → Nat → Int32)
  | 0, i, Sx => (Sx)
  | k + 1, i, Sx => lp_X0_foresee_11 j p2 p3 p4 k (i + 1) (sp_X0_foreseeStep Sx j (nI i))
theorem lz_lp_X0_foresee_11 (j : Nat) (p2 : Int32) (p3 : Int32) (p4 : Int32) (i : Nat) (Sx : (Nat → Nat → Nat → Int32)) : lp_X0_foresee_11 j p2 p3 p4 0 i Sx = (Sx) := rfl
theorem ls_lp_X0_foresee_11 (j : Nat) (p2 : Int32) (p3 : Int32) (p4 : Int32) (k i : Nat) (Sx : (Nat → Nat → Nat → Int32)) : lp_X0_foresee_11 j p2 p3 p4 (k + 1) i Sx = lp_X0_foresee_11 j p2 p3 p4 k (i + 1) (sp_X0_foreseeStep Sx j (nI i)) := rfl
theorem sfl_lp_X0_foresee_11 (j : Nat) (p2 : Int32) (p3 : Int32) (p4 : Int32) : ∀ (k i : Nat) (Sx T : (Nat → Nat → Nat → Int32)), SF T Sx → SF T ((lp_X0_foresee_11 j p2 p3 p4 k i Sx)) := by
  intro k
  induction k with
  | zero => intro i Sx T h; exact h
  | succ k ih => 
    intro i Sx T h
    unfold lp_X0_foresee_11
    exact ih (i + 1) (sp_X0_foreseeStep Sx j (nI i)) T (SF.tr h (sf_X0_foreseeStep Sx j (nI i)))

noncomputable def rw_X0_foresee (S : (Nat → Nat → Nat → Int32)) (j : Nat) (p2 : Int32) (p3 : Int32) (p4 : Int32) : (Nat → Nat → Nat → Int32) := (lp_X0_foresee_11 j p2 p3 p4 12 0 (sp_X0_lookFrom S p2 p3 p4))
/-- sealed: it unfolds by un_ alone -/
noncomputable def sp_X0_foresee : (Nat → Nat → Nat → Int32) → Nat → Int32 → Int32 → Int32 → ((Nat → Nat → Nat → Int32)) := Classical.choose (⟨rw_X0_foresee, rfl⟩ : ∃ f, f = rw_X0_foresee)
theorem un_X0_foresee (S : (Nat → Nat → Nat → Int32)) (j : Nat) (p2 : Int32) (p3 : Int32) (p4 : Int32) : sp_X0_foresee S j p2 p3 p4 = rw_X0_foresee S j p2 p3 p4 := (congrFun (congrFun (congrFun (congrFun (congrFun (Classical.choose_spec (⟨rw_X0_foresee, rfl⟩ : ∃ f, f = rw_X0_foresee)) S) j) p2) p3) p4)
theorem sf_X0_foresee (S : (Nat → Nat → Nat → Int32)) (j : Nat) (p2 : Int32) (p3 : Int32) (p4 : Int32) : SF S (sp_X0_foresee S j p2 p3 p4) := by
  rw [un_X0_foresee]
  unfold rw_X0_foresee
  exact (sfl_lp_X0_foresee_11 j p2 p3 p4 12 0 (sp_X0_lookFrom S p2 p3 p4) _ (SF.tr (SF.rf _) (sf_X0_lookFrom S p2 p3 p4)))

set_option maxHeartbeats 1000000 in
set_option maxRecDepth 100000 in
theorem ct_X0_foresee {l : Launch} {D : va_G} {cI cG cJ cO : ClassId} {K0 : Nat → Nat} {A : Nat → Prop} {L : List (Nat × Nat)} {ad : Nat → Nat → Nat} {ce : Nat → Nat → va_E} (hL : ∀ f o, cid f o = true → (f, o) ∈ L) (S : (Nat → Nat → Nat → Int32)) (hI : CI S) (j : Nat) (hj : j < 8) (p2 : Int32) (p3 : Int32) (p4 : Int32) (sz : Nat) (hA : ∀ q, sz ≤ q → A q) : Met l yX0_foresee bw_X0_foresee rm_X0_foresee (kP D (ktys cI cG cJ cO) K0 A L ad (cK cI cJ ad ce S) sz [.ref (ad 4 0), .ref (ad 6 j), .int p2, .int p3, .int p4]) (kQv D A L ad (cK cI cJ ad ce (sp_X0_foresee S j p2 p3 p4))) 0 0 A := by
  refine Met.ofW (cc := cX0_foresee) (maxL := 6) (ret := none) (by decide) rfl ?_
  intro p e s m args below meth c s₁ B hml hv
  obtain ⟨hav, hsz, hP, hD, hK, hO⟩ := hv
  have hx := B.exec
  have hb := B.bytes
  have hr := B.returns
  have hts : ∀ w ∈ BIG, w.before args s = true := fun w h => atoms_spec (ws := bw_X0_foresee) B.pre w (List.mem_cons_of_mem _ h)
  have hown : s.vm.findClass RX0 = some m.cls := findClass_of_methodNamed B.named
  have hlocks := B.notSynchronized
  subst hsz
  have hw := wk.start hP hD
  refine k_start (by rfl) hav (Nat.le_of_ble_eq_true rfl) (fun ls hl => ?_)
  have hl : lv_has ls 6 [(0, .ref (ad 4 0)), (1, .ref (ad 6 j)), (2, .int p2), (3, .int p3), (4, .int p4)] := hl
  have hE : sp_X0_foresee S j p2 p3 p4 = (lp_X0_foresee_11 j p2 p3 p4 12 0 (sp_X0_lookFrom S p2 p3 p4)) := un_X0_foresee S j p2 p3 p4
  refine lv_aload_n hx hb dX0_foresee_0 rfl (lv_at hl 0 rfl) ?_
  refine lv_iload_n hx hb dX0_foresee_1 rfl (lv_at hl 2 rfl) ?_
  refine lv_iload_n hx hb dX0_foresee_2 rfl (lv_at hl 3 rfl) ?_
  refine lv_iload hx hb dX0_foresee_3 (lv_at hl 4 rfl) ?_
  refine k_cv0 hw (k_rV (As := [.int p2, .int p3, .int p4]) (rest := []) ⟨hx, hb, hml, hown, hts⟩ hK hO hw (ct_X0_lookFrom hL S (SF.ci (SF.rf _) hI) p2 p3 p4 _ (wk.hA hw hA)) (cwV 3 hts (gB_V w_ml_X0_33 w_im_X0_lookFrom w_se_X0_lookFrom w_in_X0 w_co_X0_lookFrom) rfl rfl rfl (by decide +kernel) ⟨by decide, by decide⟩) (hL 4 0 rfl) cke_4 rfl rfl hl.1 rfl (Nat.le_of_ble_eq_true rfl) dX0_foresee_5 ⟨Nat.le_of_ble_eq_true rfl, Nat.le_of_ble_eq_true rfl⟩) (fun H locs hw => ?_)
  refine lv_iconst (v := 0) hx hb dX0_foresee_8 (by decide) ?_
  refine lv_istore (lv' := [(5, .int 0), (0, .ref (ad 4 0)), (1, .ref (ad 6 j)), (2, .int p2), (3, .int p3), (4, .int p4)]) hx hb dX0_foresee_9 hl (by decide) rfl (fun ls hl => ?_)
  have key_11 : ∀ (k i : Nat) (Sx : (Nat → Nat → Nat → Int32)) (H : Heap) (locs : List Loc) (ls : Array Slot), i + k = 12 → SF S Sx → (lp_X0_foresee_11 j p2 p3 p4 12 0 (sp_X0_lookFrom S p2 p3 p4)) = lp_X0_foresee_11 j p2 p3 p4 k i Sx → wk D A L ad (cK cI cJ ad ce Sx) s.heap H locs → lv_has ls 6 [(0, .ref (ad 4 0)), (1, .ref (ad 6 j)), (2, .int p2), (3, .int p3), (4, .int p4), (5, .int (nI i))] → W p l e (headSpec bw_X0_foresee rm_X0_foresee).room s m args below meth c H locs 0 0 (MQ below (kQv D A L ad (cK cI cJ ad ce (sp_X0_foresee S j p2 p3 p4))) args s 0 0 A) (F0 m 11 ls []) := by
    intro k
    induction k with
    | zero =>
      intro i Sx H locs ls hk hsf hV hw hl
      have hV := hV.trans (lz_lp_X0_foresee_11 j p2 p3 p4 i Sx)
      subst hV
      refine lv_iload hx hb dX0_foresee_11 (lv_at hl 5 rfl) ?_
      refine lv_bipush (v := 12) hx hb dX0_foresee_13 (by decide) ?_
      refine lv_icmp_ge (tgt := 31) hx hb dX0_foresee_15 (by decide) (fun _ => ?_) (fun h => absurd (lp_o rfl hk (by decide)) h)
      exact k_vretE hx hb hr hlocks hw hE dX0_foresee_31
    | succ k ih =>
      intro i Sx H locs ls hk hsf hV hw hl
      have hV := hV.trans (ls_lp_X0_foresee_11 j p2 p3 p4 k i Sx)
      refine lv_iload hx hb dX0_foresee_11 (lv_at hl 5 rfl) ?_
      refine lv_bipush (v := 12) hx hb dX0_foresee_13 (by decide) ?_
      refine lv_icmp_ge (tgt := 31) hx hb dX0_foresee_15 (by decide) (fun h => absurd h (lp_i rfl hk (by decide))) (fun _ => ?_)
      refine lv_aload_n hx hb dX0_foresee_18 rfl (lv_at hl 0 rfl) ?_
      refine lv_aload_n hx hb dX0_foresee_19 rfl (lv_at hl 1 rfl) ?_
      refine lv_iload hx hb dX0_foresee_20 (lv_at hl 5 rfl) ?_
      refine k_cv0 hw (k_rV (As := [.ref (ad 6 j), .int (nI i)]) (rest := []) ⟨hx, hb, hml, hown, hts⟩ hK hO hw (ct_X0_foreseeStep hL Sx (SF.ci hsf hI) j hj (nI i) _ (wk.hA hw hA)) (cwV 2 hts (gB_V w_ml_X0_37 w_im_X0_foreseeStep w_se_X0_foreseeStep w_in_X0 w_co_X0_foreseeStep) rfl rfl rfl (by decide +kernel) ⟨by decide, by decide⟩) (hL 4 0 rfl) cke_4 rfl rfl hl.1 rfl (Nat.le_of_ble_eq_true rfl) dX0_foresee_22 ⟨Nat.le_of_ble_eq_true rfl, Nat.le_of_ble_eq_true rfl⟩) (fun H locs hw => ?_)
      refine lv_iinc (v := (nI (i + 1))) (lv' := [(5, .int (nI (i + 1))), (0, .ref (ad 4 0)), (1, .ref (ad 6 j)), (2, .int p2), (3, .int p3), (4, .int p4)]) hx hb dX0_foresee_25 hl (k := 5) rfl (nI_1 _) (by decide) rfl (fun ls hl => ?_)
      refine lv_goto (tgt := 11) hx hb dX0_foresee_28 (by decide) ?_
      exact ih (i + 1) (sp_X0_foreseeStep Sx j (nI i)) _ _ _ (lp_s hk) (SF.tr hsf (sf_X0_foreseeStep Sx j (nI i))) hV hw (lv_sub hl [1, 2, 3, 4, 5, 0] rfl)
  exact key_11 12 0 (sp_X0_lookFrom S p2 p3 p4) _ _ _ (Nat.zero_add _) (SF.tr (SF.rf _) (sf_X0_lookFrom S p2 p3 p4)) rfl hw (lv_sub hl [1, 2, 3, 4, 5, 0] rfl)
