abbrev bw_X10_thrown : List Cond := .code yX10_thrown cX10_thrown 1 (some .int) :: BIG
abbrev rm_X10_thrown : Room := { frames := 1, cells := 0, slots := 0, locals := 12 }
noncomputable def sp_X10_thrown (S : (Nat → Nat → Nat → Int32)) : Option (Int32) := some (S 40 0 0)
set_option maxHeartbeats 1000000 in
set_option maxRecDepth 100000 in
theorem ct_X10_thrown {l : Launch} {D : va_G} {cI cG cJ cO : ClassId} {K0 : Nat → Nat} {A : Nat → Prop} {L : List (Nat × Nat)} {ad : Nat → Nat → Nat} {ce : Nat → Nat → va_E} {cp : Nat → Nat} {S : (Nat → Nat → Nat → Int32)} (hR : MR S L cp) (hI : CI S) {v : Int32} (hE : sp_X10_thrown S = some v) (sz : Nat) (hA : ∀ q, sz ≤ q → A q) : Met l yX10_thrown bw_X10_thrown (rm_X10_thrown) (kP D (ktys cI cG cJ cO) K0 A L ad (mK cI cO K0 ad cp ce S) sz [.ref (ad 30 0)]) (kQi D A v L ad (mK cI cO K0 ad cp ce S)) 0 0 A := by
  refine Met.ofW (cc := cX10_thrown) (maxL := 1) (ret := (some .int)) (by decide) rfl ?_
  intro p e s m args below meth c s₁ B hml hv_
  obtain ⟨hav, hsz, hP, hD, hK, hO⟩ := hv_
  have hx := B.exec
  have hb := B.bytes
  have hr := B.returns
  have hts : ∀ w ∈ BIG, w.before args s = true := fun w h => atoms_spec (ws := bw_X10_thrown) B.pre w (List.mem_cons_of_mem _ h)
  have hown : s.vm.findClass RX10 = some m.cls := findClass_of_methodNamed B.named
  have hlocks := B.notSynchronized
  subst hsz
  have hw := wk.start hP hD
  refine k_start (by rfl) hav (Nat.le_of_ble_eq_true rfl) (fun ls hl => ?_)
  have hl : lv_has ls 1 [(0, .ref (ad 30 0))] := hl
  unfold sp_X10_thrown at hE
  refine lv_aload_n hx hb dX10_thrown_0 rfl (lv_at hl 0 rfl) ?_
  refine k_get (C := RX10) (T := TX10) (N := 9) (v := .int (S 40 0 0)) hx hb hts inB_X10 hown hK hw (hR.1 30 (by decide) (by decide)) mke_30 rfl 0 (by decide) (hts _ w_f_X10_35) (fun _ h9 => h9) rfl dX10_thrown_1 ?_
  exact m_iret hx hb hr hlocks rfl hw hE (Nat.le_of_ble_eq_true rfl) (Nat.le_of_ble_eq_true rfl) dX10_thrown_4

abbrev bw_X10_refuse : List Cond := .code yX10_refuse cX10_refuse 3 (some .boolean) :: BIG
abbrev rm_X10_refuse : Room := { frames := 1, cells := 0, slots := 0, locals := 12 }
noncomputable def sp_X10_refuse (S : (Nat → Nat → Nat → Int32)) (p1 : Int32) (p2 : Int32) : Option (Int32 × (Nat → Nat → Nat → Int32)) := if p1 = 0 then (if S 40 0 0 ≤ 0 then (some ((0, S))) else (some ((1, S)))) else (if S 40 0 0 = 0 then (if (up3 S 40 0 0 p2) 40 0 0 ≤ 0 then (some ((0, (up3 S 40 0 0 p2)))) else (some ((1, (up3 S 40 0 0 p2))))) else (if S 40 0 0 ≤ 0 then (some ((0, S))) else (some ((1, S)))))
theorem sf_X10_refuse {S : (Nat → Nat → Nat → Int32)} {p1 : Int32} {p2 : Int32} {v : Int32 × (Nat → Nat → Nat → Int32)} (h : sp_X10_refuse S p1 p2 = some v) : SM S v.2 := by
  unfold sp_X10_refuse at h
  by_cases q_6 : p1 = 0
  · have h := (if_pos q_6).symm.trans h
    by_cases q_7 : S 40 0 0 ≤ 0
    · have h := (if_pos q_7).symm.trans h
      have hz : SM S S := (SM.rf S); cases h; exact hz
    · have h := (if_neg q_7).symm.trans h
      have hz : SM S S := (SM.rf S); cases h; exact hz
  · have h := (if_neg q_6).symm.trans h
    by_cases q_8 : S 40 0 0 = 0
    · have h := (if_pos q_8).symm.trans h
      by_cases q_9 : (up3 S 40 0 0 p2) 40 0 0 ≤ 0
      · have h := (if_pos q_9).symm.trans h
        have hz : SM S (up3 S 40 0 0 p2) := (SM.up rfl (by decide) (SM.rf S)); cases h; exact hz
      · have h := (if_neg q_9).symm.trans h
        have hz : SM S (up3 S 40 0 0 p2) := (SM.up rfl (by decide) (SM.rf S)); cases h; exact hz
    · have h := (if_neg q_8).symm.trans h
      by_cases q_10 : S 40 0 0 ≤ 0
      · have h := (if_pos q_10).symm.trans h
        have hz : SM S S := (SM.rf S); cases h; exact hz
      · have h := (if_neg q_10).symm.trans h
        have hz : SM S S := (SM.rf S); cases h; exact hz

theorem bz_X10_refuse {S : (Nat → Nat → Nat → Int32)} {p1 : Int32} {p2 : Int32} {v : Int32 × (Nat → Nat → Nat → Int32)} (h : sp_X10_refuse S p1 p2 = some v) : v.1 = 0 ∨ v.1 = 1 := by
  unfold sp_X10_refuse at h
  by_cases q_11 : p1 = 0
  · have h := (if_pos q_11).symm.trans h
    by_cases q_12 : S 40 0 0 ≤ 0
    · have h := (if_pos q_12).symm.trans h
      cases h; exact Or.inl rfl
    · have h := (if_neg q_12).symm.trans h
      cases h; exact Or.inr rfl
  · have h := (if_neg q_11).symm.trans h
    by_cases q_13 : S 40 0 0 = 0
    · have h := (if_pos q_13).symm.trans h
      by_cases q_14 : (up3 S 40 0 0 p2) 40 0 0 ≤ 0
      · have h := (if_pos q_14).symm.trans h
        cases h; exact Or.inl rfl
      · have h := (if_neg q_14).symm.trans h
        cases h; exact Or.inr rfl
    · have h := (if_neg q_13).symm.trans h
      by_cases q_15 : S 40 0 0 ≤ 0
      · have h := (if_pos q_15).symm.trans h
        cases h; exact Or.inl rfl
      · have h := (if_neg q_15).symm.trans h
        cases h; exact Or.inr rfl

set_option maxHeartbeats 1000000 in
set_option maxRecDepth 100000 in
theorem ct_X10_refuse {l : Launch} {D : va_G} {cI cG cJ cO : ClassId} {K0 : Nat → Nat} {A : Nat → Prop} {L : List (Nat × Nat)} {ad : Nat → Nat → Nat} {ce : Nat → Nat → va_E} {cp : Nat → Nat} {S : (Nat → Nat → Nat → Int32)} (hR : MR S L cp) (hI : CI S) {p1 : Int32} {p2 : Int32} {v : Int32 × (Nat → Nat → Nat → Int32)} (hE : sp_X10_refuse S p1 p2 = some v) (sz : Nat) (hA : ∀ q, sz ≤ q → A q) : Met l yX10_refuse bw_X10_refuse (rm_X10_refuse) (kP D (ktys cI cG cJ cO) K0 A L ad (mK cI cO K0 ad cp ce S) sz [.ref (ad 30 0), .int p1, .int p2]) (kQi D A v.1 L ad (mK cI cO K0 ad cp ce v.2)) 0 0 A := by
  refine Met.ofW (cc := cX10_refuse) (maxL := 3) (ret := (some .boolean)) (by decide) rfl ?_
  intro p e s m args below meth c s₁ B hml hv_
  obtain ⟨hav, hsz, hP, hD, hK, hO⟩ := hv_
  have hx := B.exec
  have hb := B.bytes
  have hr := B.returns
  have hts : ∀ w ∈ BIG, w.before args s = true := fun w h => atoms_spec (ws := bw_X10_refuse) B.pre w (List.mem_cons_of_mem _ h)
  have hown : s.vm.findClass RX10 = some m.cls := findClass_of_methodNamed B.named
  have hlocks := B.notSynchronized
  subst hsz
  have hw := wk.start hP hD
  refine k_start (by rfl) hav (Nat.le_of_ble_eq_true rfl) (fun ls hl => ?_)
  have hl : lv_has ls 3 [(0, .ref (ad 30 0)), (1, .int p1), (2, .int p2)] := hl
  unfold sp_X10_refuse at hE
  refine lv_iload_n hx hb dX10_refuse_0 rfl (lv_at hl 1 rfl) ?_
  refine lv_if_eq (tgt := 16) hx hb dX10_refuse_1 (by decide) (fun c_1 => ?_) (fun c_1 => ?_)
  · have hE := (if_pos c_1).symm.trans hE
    refine lv_aload_n hx hb dX10_refuse_16 rfl (lv_at hl 0 rfl) ?_
    refine k_get (C := RX10) (T := TX10) (N := 9) (v := .int (S 40 0 0)) hx hb hts inB_X10 hown hK hw (hR.1 30 (by decide) (by decide)) mke_30 rfl 0 (by decide) (hts _ w_f_X10_35) (fun _ h9 => h9) rfl dX10_refuse_17 ?_
    refine lv_if_le (tgt := 27) hx hb dX10_refuse_20 (by decide) (fun c_2 => ?_) (fun c_2 => ?_)
    · have hE := (if_pos c_2).symm.trans hE
      refine lv_iconst (v := 0) hx hb dX10_refuse_27 (by decide) ?_
      exact m_iretE hx hb hr hlocks rfl hw hE (Nat.le_of_ble_eq_true rfl) (Nat.le_of_ble_eq_true rfl) dX10_refuse_28
    · have hE := (if_neg c_2).symm.trans hE
      refine lv_iconst (v := 1) hx hb dX10_refuse_23 (by decide) ?_
      refine lv_goto (tgt := 28) hx hb dX10_refuse_24 (by decide) ?_
      exact m_iretE hx hb hr hlocks rfl hw hE (Nat.le_of_ble_eq_true rfl) (Nat.le_of_ble_eq_true rfl) dX10_refuse_28
  · have hE := (if_neg c_1).symm.trans hE
    refine lv_aload_n hx hb dX10_refuse_4 rfl (lv_at hl 0 rfl) ?_
    refine k_get (C := RX10) (T := TX10) (N := 9) (v := .int (S 40 0 0)) hx hb hts inB_X10 hown hK hw (hR.1 30 (by decide) (by decide)) mke_30 rfl 0 (by decide) (hts _ w_f_X10_35) (fun _ h9 => h9) rfl dX10_refuse_5 ?_
    refine lv_if_ne (tgt := 16) hx hb dX10_refuse_8 (by decide) (fun c_3 => ?_) (fun c_3 => ?_)
    · have hE := (if_neg c_3).symm.trans hE
      refine lv_aload_n hx hb dX10_refuse_16 rfl (lv_at hl 0 rfl) ?_
      refine k_get (C := RX10) (T := TX10) (N := 9) (v := .int (S 40 0 0)) hx hb hts inB_X10 hown hK hw (hR.1 30 (by decide) (by decide)) mke_30 rfl 0 (by decide) (hts _ w_f_X10_35) (fun _ h9 => h9) rfl dX10_refuse_17 ?_
      refine lv_if_le (tgt := 27) hx hb dX10_refuse_20 (by decide) (fun c_4 => ?_) (fun c_4 => ?_)
      · have hE := (if_pos c_4).symm.trans hE
        refine lv_iconst (v := 0) hx hb dX10_refuse_27 (by decide) ?_
        exact m_iretE hx hb hr hlocks rfl hw hE (Nat.le_of_ble_eq_true rfl) (Nat.le_of_ble_eq_true rfl) dX10_refuse_28
      · have hE := (if_neg c_4).symm.trans hE
        refine lv_iconst (v := 1) hx hb dX10_refuse_23 (by decide) ?_
        refine lv_goto (tgt := 28) hx hb dX10_refuse_24 (by decide) ?_
        exact m_iretE hx hb hr hlocks rfl hw hE (Nat.le_of_ble_eq_true rfl) (Nat.le_of_ble_eq_true rfl) dX10_refuse_28
    · have hE := (if_pos c_3).symm.trans hE
      refine lv_aload_n hx hb dX10_refuse_11 rfl (lv_at hl 0 rfl) ?_
      refine lv_iload_n hx hb dX10_refuse_12 rfl (lv_at hl 2 rfl) ?_
      refine k_put (C := RX10) (T := TX10) (N := 9) (v := .int p2) (ty := .int) hx hb hts inB_X10 tyX10 tyX10_ok nmX10 hown hK hw (hR.1 30 (by decide) (by decide)) mke_30 rfl 0 (by decide) (hts _ w_f_X10_35) (fun _ h9 => h9) rfl (by decide +kernel) rfl rfl (Nat.le_of_ble_eq_true rfl) (mK_thrown (v := p2) rfl) dX10_refuse_13 (fun H locs hw => ?_)
      refine lv_aload_n hx hb dX10_refuse_16 rfl (lv_at hl 0 rfl) ?_
      refine k_get (C := RX10) (T := TX10) (N := 9) (v := .int ((up3 S 40 0 0 p2) 40 0 0)) hx hb hts inB_X10 hown hK hw (hR.1 30 (by decide) (by decide)) mke_30 rfl 0 (by decide) (hts _ w_f_X10_35) (fun _ h9 => h9) rfl dX10_refuse_17 ?_
      refine lv_if_le (tgt := 27) hx hb dX10_refuse_20 (by decide) (fun c_5 => ?_) (fun c_5 => ?_)
      · have hE := (if_pos c_5).symm.trans hE
        refine lv_iconst (v := 0) hx hb dX10_refuse_27 (by decide) ?_
        exact m_iretE hx hb hr hlocks rfl hw hE (Nat.le_of_ble_eq_true rfl) (Nat.le_of_ble_eq_true rfl) dX10_refuse_28
      · have hE := (if_neg c_5).symm.trans hE
        refine lv_iconst (v := 1) hx hb dX10_refuse_23 (by decide) ?_
        refine lv_goto (tgt := 28) hx hb dX10_refuse_24 (by decide) ?_
        exact m_iretE hx hb hr hlocks rfl hw hE (Nat.le_of_ble_eq_true rfl) (Nat.le_of_ble_eq_true rfl) dX10_refuse_28

abbrev bw_X10_start : List Cond := .code yX10_start cX10_start 3 (some .boolean) :: BIG
abbrev rm_X10_start : Room := { frames := 2, cells := 0, slots := 0, locals := 34 }
noncomputable def sp_X10_start (S : (Nat → Nat → Nat → Int32)) (p1 : Int32) (p2 : Int32) : Option (Int32 × (Nat → Nat → Nat → Int32)) := (sp_X10_refuse (up3 S 40 0 0 0) p1 p2).bind fun x_1 => (some ((x_1.1, x_1.2)))
theorem sf_X10_start {S : (Nat → Nat → Nat → Int32)} {p1 : Int32} {p2 : Int32} {v : Int32 × (Nat → Nat → Nat → Int32)} (h : sp_X10_start S p1 p2 = some v) : SM S v.2 := by
  unfold sp_X10_start at h
  obtain ⟨x_1, hx_1, h⟩ := ob1 h
  have hz : SM S x_1.2 := (SM.tr (SM.up rfl (by decide) (SM.rf S)) (sf_X10_refuse hx_1)); cases h; exact hz

theorem bz_X10_start {S : (Nat → Nat → Nat → Int32)} {p1 : Int32} {p2 : Int32} {v : Int32 × (Nat → Nat → Nat → Int32)} (h : sp_X10_start S p1 p2 = some v) : v.1 = 0 ∨ v.1 = 1 := by
  unfold sp_X10_start at h
  obtain ⟨x_1, hx_1, h⟩ := ob1 h
  cases h; exact bz_X10_refuse hx_1

set_option maxHeartbeats 1000000 in
set_option maxRecDepth 100000 in
theorem ct_X10_start {l : Launch} {D : va_G} {cI cG cJ cO : ClassId} {K0 : Nat → Nat} {A : Nat → Prop} {L : List (Nat × Nat)} {ad : Nat → Nat → Nat} {ce : Nat → Nat → va_E} {cp : Nat → Nat} {S : (Nat → Nat → Nat → Int32)} (hR : MR S L cp) (hI : CI S) {p1 : Int32} {p2 : Int32} {v : Int32 × (Nat → Nat → Nat → Int32)} (hE : sp_X10_start S p1 p2 = some v) (sz : Nat) (hA : ∀ q, sz ≤ q → A q) : Met l yX10_start bw_X10_start (rm_X10_start) (kP D (ktys cI cG cJ cO) K0 A L ad (mK cI cO K0 ad cp ce S) sz [.ref (ad 30 0), .int p1, .int p2]) (kQi D A v.1 L ad (mK cI cO K0 ad cp ce v.2)) 0 0 A := by
  refine Met.ofW (cc := cX10_start) (maxL := 3) (ret := (some .boolean)) (by decide) rfl ?_
  intro p e s m args below meth c s₁ B hml hv_
  obtain ⟨hav, hsz, hP, hD, hK, hO⟩ := hv_
  have hx := B.exec
  have hb := B.bytes
  have hr := B.returns
  have hts : ∀ w ∈ BIG, w.before args s = true := fun w h => atoms_spec (ws := bw_X10_start) B.pre w (List.mem_cons_of_mem _ h)
  have hown : s.vm.findClass RX10 = some m.cls := findClass_of_methodNamed B.named
  have hlocks := B.notSynchronized
  subst hsz
  have hw := wk.start hP hD
  refine k_start (by rfl) hav (Nat.le_of_ble_eq_true rfl) (fun ls hl => ?_)
  have hl : lv_has ls 3 [(0, .ref (ad 30 0)), (1, .int p1), (2, .int p2)] := hl
  unfold sp_X10_start at hE
  refine lv_aload_n hx hb dX10_start_0 rfl (lv_at hl 0 rfl) ?_
  refine lv_iconst (v := 0) hx hb dX10_start_1 (by decide) ?_
  refine k_put (C := RX10) (T := TX10) (N := 9) (v := .int 0) (ty := .int) hx hb hts inB_X10 tyX10 tyX10_ok nmX10 hown hK hw (hR.1 30 (by decide) (by decide)) mke_30 rfl 0 (by decide) (hts _ w_f_X10_35) (fun _ h9 => h9) rfl (by decide +kernel) rfl rfl (Nat.le_of_ble_eq_true rfl) (mK_thrown (v := 0) rfl) dX10_start_2 (fun H locs hw => ?_)
  refine lv_aload_n hx hb dX10_start_5 rfl (lv_at hl 0 rfl) ?_
  refine lv_iload_n hx hb dX10_start_6 rfl (lv_at hl 1 rfl) ?_
  refine lv_iload_n hx hb dX10_start_7 rfl (lv_at hl 2 rfl) ?_
  obtain ⟨x_1, hx_1, hE⟩ := ob1 hE
  refine k_ci0 hw (k_rV (f := 30) (o := 0) (As := [.int p1, .int p2]) (rest := []) ⟨hx, hb, hml, hown, hts⟩ hK hO hw (ct_X10_refuse (MR.sm (SM.up rfl (by decide) (SM.rf S)) hR) (SM.ci (SM.up rfl (by decide) (SM.rf S)) hI) hx_1 _ (wk.hA hw hA)) (cwV 2 hts (gB_V w_ml_X10_39 w_im_X10_refuse w_se_X10_refuse w_in_X10 w_co_X10_refuse) rfl rfl rfl (by decide +kernel) ⟨Nat.le_of_ble_eq_true rfl, Nat.le_of_ble_eq_true rfl⟩) (hR.1 30 (by decide) (by decide)) mke_30 rfl rfl hl.1 rfl (Nat.le_of_ble_eq_true rfl) dX10_start_8 ⟨(Nat.le_of_ble_eq_true rfl), (Nat.le_of_ble_eq_true rfl)⟩) (fun H locs hw => ?_)
  exact m_iretE hx hb hr hlocks (k_nz (bz_X10_refuse hx_1)) hw hE (Nat.le_of_ble_eq_true rfl) (Nat.le_of_ble_eq_true rfl) dX10_start_11

abbrev bw_X10_isNoSet : List Cond := .code yX10_isNoSet cX10_isNoSet 2 (some .boolean) :: BIG
abbrev rm_X10_isNoSet : Room := { frames := 1, cells := 0, slots := 0, locals := 22 }
noncomputable def sp_X10_isNoSet (S : (Nat → Nat → Nat → Int32)) (p1 : Int32) : Option (Int32) := if (sp_X10_isFrom p1 0 (((1 : Int32) <<< ((S 1 0 0) &&& 31)) - 1)) = 0 then (some (1)) else (some (0))
theorem bz_X10_isNoSet {S : (Nat → Nat → Nat → Int32)} {p1 : Int32} {v : Int32} (h : sp_X10_isNoSet S p1 = some v) : v = 0 ∨ v = 1 := by
  unfold sp_X10_isNoSet at h
  by_cases q_2 : (sp_X10_isFrom p1 0 (((1 : Int32) <<< ((S 1 0 0) &&& 31)) - 1)) = 0
  · have h := (if_pos q_2).symm.trans h
    cases h; exact Or.inr rfl
  · have h := (if_neg q_2).symm.trans h
    cases h; exact Or.inl rfl

set_option maxHeartbeats 1000000 in
set_option maxRecDepth 100000 in
theorem ct_X10_isNoSet {l : Launch} {D : va_G} {cI cG cJ cO : ClassId} {K0 : Nat → Nat} {A : Nat → Prop} {L : List (Nat × Nat)} {ad : Nat → Nat → Nat} {ce : Nat → Nat → va_E} {cp : Nat → Nat} {S : (Nat → Nat → Nat → Int32)} (hR : MR S L cp) (hI : CI S) {p1 : Int32} {v : Int32} (hE : sp_X10_isNoSet S p1 = some v) (sz : Nat) (hA : ∀ q, sz ≤ q → A q) : Met l yX10_isNoSet bw_X10_isNoSet (rm_X10_isNoSet) (kP D (ktys cI cG cJ cO) K0 A L ad (mK cI cO K0 ad cp ce S) sz [.ref (ad 30 0), .int p1]) (kQi D A v L ad (mK cI cO K0 ad cp ce S)) 0 0 A := by
  refine Met.ofW (cc := cX10_isNoSet) (maxL := 2) (ret := (some .boolean)) (by decide) rfl ?_
  intro p e s m args below meth c s₁ B hml hv_
  obtain ⟨hav, hsz, hP, hD, hK, hO⟩ := hv_
  have hx := B.exec
  have hb := B.bytes
  have hr := B.returns
  have hts : ∀ w ∈ BIG, w.before args s = true := fun w h => atoms_spec (ws := bw_X10_isNoSet) B.pre w (List.mem_cons_of_mem _ h)
  have hown : s.vm.findClass RX10 = some m.cls := findClass_of_methodNamed B.named
  have hlocks := B.notSynchronized
  subst hsz
  have hw := wk.start hP hD
  refine k_start (by rfl) hav (Nat.le_of_ble_eq_true rfl) (fun ls hl => ?_)
  have hl : lv_has ls 2 [(0, .ref (ad 30 0)), (1, .int p1)] := hl
  unfold sp_X10_isNoSet at hE
  refine lv_iload_n hx hb dX10_isNoSet_0 rfl (lv_at hl 1 rfl) ?_
  refine lv_iconst (v := 0) hx hb dX10_isNoSet_1 (by decide) ?_
  refine lv_iconst (v := 1) hx hb dX10_isNoSet_2 (by decide) ?_
  refine lv_aload_n hx hb dX10_isNoSet_3 rfl (lv_at hl 0 rfl) ?_
  refine k_get (C := RX10) (T := TX10) (N := 9) (v := .ref (ad 31 0)) hx hb hts inB_X10 hown hK hw (hR.1 30 (by decide) (by decide)) mke_30 rfl 1 (by decide) (hts _ w_f_X10_10) (fun _ h9 => h9) rfl dX10_isNoSet_4 ?_
  refine k_ci0 hw (k_rV (f := 31) (o := 0) (As := []) (rest := [.int 1, .int 0, .int p1]) ⟨hx, hb, hml, hown, hts⟩ hK hO hw (ct_size_0 (SM.rf S) hR _ (wk.hA hw hA)) (cwV 0 hts (gB_V w_ml_X10_43 w_im_Jx4a65c_size_8abf5 w_se_Jx4a65c_size_8abf5 w_in_Jx4a65c w_co_Jx4a65c_size_8abf5) rfl rfl rfl (by decide +kernel) ⟨Nat.le_of_ble_eq_true rfl, Nat.le_of_ble_eq_true rfl⟩) (hR.1 31 (by decide) (by decide)) (ce_l0 (SM.rf S)) rfl rfl hl.1 rfl (Nat.le_of_ble_eq_true rfl) dX10_isNoSet_7 ⟨(Nat.le_of_ble_eq_true rfl), (Nat.le_of_ble_eq_true rfl)⟩) (fun H locs hw => ?_)
  refine lv_ishl hx hb dX10_isNoSet_10 ?_
  refine lv_iconst (v := 1) hx hb dX10_isNoSet_11 (by decide) ?_
  refine lv_isub hx hb dX10_isNoSet_12 ?_
  refine k_ci0 hw (k_rS (As := [.int p1, .int 0, .int (((1 : Int32) <<< ((S 1 0 0) &&& 31)) - 1)]) (rest := []) ⟨hx, hb, hml, hown, hts⟩ hK hO hw (ct_X10_isFrom p1 0 (((1 : Int32) <<< ((S 1 0 0) &&& 31)) - 1) _ (wk.hA hw hA)) (va_cwS 3 hts (gB_S w_ml_X10_47 w_st_X10_isFrom w_in_X10 w_co_X10_isFrom) rfl rfl rfl (by decide +kernel) ⟨Nat.le_of_ble_eq_true rfl, Nat.le_of_ble_eq_true rfl⟩) rfl hl.1 rfl (Nat.le_of_ble_eq_true rfl) dX10_isNoSet_13 ⟨(Nat.le_of_ble_eq_true rfl), (Nat.le_of_ble_eq_true rfl)⟩) (fun H locs hw => ?_)
  refine lv_if_ne (tgt := 23) hx hb dX10_isNoSet_16 (by decide) (fun c_1 => ?_) (fun c_1 => ?_)
  · have hE := (if_neg c_1).symm.trans hE
    refine lv_iconst (v := 0) hx hb dX10_isNoSet_23 (by decide) ?_
    exact m_iret hx hb hr hlocks rfl hw hE (Nat.le_of_ble_eq_true rfl) (Nat.le_of_ble_eq_true rfl) dX10_isNoSet_24
  · have hE := (if_pos c_1).symm.trans hE
    refine lv_iconst (v := 1) hx hb dX10_isNoSet_19 (by decide) ?_
    refine lv_goto (tgt := 24) hx hb dX10_isNoSet_20 (by decide) ?_
    exact m_iret hx hb hr hlocks rfl hw hE (Nat.le_of_ble_eq_true rfl) (Nat.le_of_ble_eq_true rfl) dX10_isNoSet_24

abbrev bw_X10_isNoDay : List Cond := .code yX10_isNoDay cX10_isNoDay 2 (some .boolean) :: BIG
abbrev rm_X10_isNoDay : Room := { frames := 1, cells := 0, slots := 0, locals := 22 }
noncomputable def sp_X10_isNoDay (S : (Nat → Nat → Nat → Int32)) (p1 : Int32) : Option (Int32) := if (sp_X10_isFrom p1 ((S 0 0 1) + 1) 199) = 0 then (some (1)) else (some (0))
theorem bz_X10_isNoDay {S : (Nat → Nat → Nat → Int32)} {p1 : Int32} {v : Int32} (h : sp_X10_isNoDay S p1 = some v) : v = 0 ∨ v = 1 := by
  unfold sp_X10_isNoDay at h
  by_cases q_2 : (sp_X10_isFrom p1 ((S 0 0 1) + 1) 199) = 0
  · have h := (if_pos q_2).symm.trans h
    cases h; exact Or.inr rfl
  · have h := (if_neg q_2).symm.trans h
    cases h; exact Or.inl rfl

set_option maxHeartbeats 1000000 in
set_option maxRecDepth 100000 in
theorem ct_X10_isNoDay {l : Launch} {D : va_G} {cI cG cJ cO : ClassId} {K0 : Nat → Nat} {A : Nat → Prop} {L : List (Nat × Nat)} {ad : Nat → Nat → Nat} {ce : Nat → Nat → va_E} {cp : Nat → Nat} {S : (Nat → Nat → Nat → Int32)} (hR : MR S L cp) (hI : CI S) {p1 : Int32} {v : Int32} (hE : sp_X10_isNoDay S p1 = some v) (sz : Nat) (hA : ∀ q, sz ≤ q → A q) : Met l yX10_isNoDay bw_X10_isNoDay (rm_X10_isNoDay) (kP D (ktys cI cG cJ cO) K0 A L ad (mK cI cO K0 ad cp ce S) sz [.ref (ad 30 0), .int p1]) (kQi D A v L ad (mK cI cO K0 ad cp ce S)) 0 0 A := by
  refine Met.ofW (cc := cX10_isNoDay) (maxL := 2) (ret := (some .boolean)) (by decide) rfl ?_
  intro p e s m args below meth c s₁ B hml hv_
  obtain ⟨hav, hsz, hP, hD, hK, hO⟩ := hv_
  have hx := B.exec
  have hb := B.bytes
  have hr := B.returns
  have hts : ∀ w ∈ BIG, w.before args s = true := fun w h => atoms_spec (ws := bw_X10_isNoDay) B.pre w (List.mem_cons_of_mem _ h)
  have hown : s.vm.findClass RX10 = some m.cls := findClass_of_methodNamed B.named
  have hlocks := B.notSynchronized
  subst hsz
  have hw := wk.start hP hD
  refine k_start (by rfl) hav (Nat.le_of_ble_eq_true rfl) (fun ls hl => ?_)
  have hl : lv_has ls 2 [(0, .ref (ad 30 0)), (1, .int p1)] := hl
  unfold sp_X10_isNoDay at hE
  refine lv_iload_n hx hb dX10_isNoDay_0 rfl (lv_at hl 1 rfl) ?_
  refine lv_aload_n hx hb dX10_isNoDay_1 rfl (lv_at hl 0 rfl) ?_
  refine k_get (C := RX10) (T := TX10) (N := 9) (v := .int (S 0 0 1)) hx hb hts inB_X10 hown hK hw (hR.1 30 (by decide) (by decide)) mke_30 rfl 8 (by decide) (hts _ w_f_X10_103) (fun _ h9 => h9) rfl dX10_isNoDay_2 ?_
  refine lv_iconst (v := 1) hx hb dX10_isNoDay_5 (by decide) ?_
  refine lv_iadd hx hb dX10_isNoDay_6 ?_
  refine lv_sipush (v := 199) hx hb dX10_isNoDay_7 (by decide) ?_
  refine k_ci0 hw (k_rS (As := [.int p1, .int ((S 0 0 1) + 1), .int 199]) (rest := []) ⟨hx, hb, hml, hown, hts⟩ hK hO hw (ct_X10_isFrom p1 ((S 0 0 1) + 1) 199 _ (wk.hA hw hA)) (va_cwS 3 hts (gB_S w_ml_X10_47 w_st_X10_isFrom w_in_X10 w_co_X10_isFrom) rfl rfl rfl (by decide +kernel) ⟨Nat.le_of_ble_eq_true rfl, Nat.le_of_ble_eq_true rfl⟩) rfl hl.1 rfl (Nat.le_of_ble_eq_true rfl) dX10_isNoDay_10 ⟨(Nat.le_of_ble_eq_true rfl), (Nat.le_of_ble_eq_true rfl)⟩) (fun H locs hw => ?_)
  refine lv_if_ne (tgt := 20) hx hb dX10_isNoDay_13 (by decide) (fun c_1 => ?_) (fun c_1 => ?_)
  · have hE := (if_neg c_1).symm.trans hE
    refine lv_iconst (v := 0) hx hb dX10_isNoDay_20 (by decide) ?_
    exact m_iret hx hb hr hlocks rfl hw hE (Nat.le_of_ble_eq_true rfl) (Nat.le_of_ble_eq_true rfl) dX10_isNoDay_21
  · have hE := (if_pos c_1).symm.trans hE
    refine lv_iconst (v := 1) hx hb dX10_isNoDay_16 (by decide) ?_
    refine lv_goto (tgt := 21) hx hb dX10_isNoDay_17 (by decide) ?_
    exact m_iret hx hb hr hlocks rfl hw hE (Nat.le_of_ble_eq_true rfl) (Nat.le_of_ble_eq_true rfl) dX10_isNoDay_21

abbrev bw_X10_isNo : List Cond := .code yX10_isNo cX10_isNo 2 (some .boolean) :: BIG
abbrev rm_X10_isNo : Room := { frames := 1, cells := 0, slots := 0, locals := 22 }
noncomputable def sp_X10_isNo (S : (Nat → Nat → Nat → Int32)) (p1 : Int32) : Option (Int32) := if (sp_X10_isFrom p1 0 ((S 0 0 0) - 1)) = 0 then (some (1)) else (some (0))
theorem bz_X10_isNo {S : (Nat → Nat → Nat → Int32)} {p1 : Int32} {v : Int32} (h : sp_X10_isNo S p1 = some v) : v = 0 ∨ v = 1 := by
  unfold sp_X10_isNo at h
  by_cases q_2 : (sp_X10_isFrom p1 0 ((S 0 0 0) - 1)) = 0
  · have h := (if_pos q_2).symm.trans h
    cases h; exact Or.inr rfl
  · have h := (if_neg q_2).symm.trans h
    cases h; exact Or.inl rfl

set_option maxHeartbeats 1000000 in
set_option maxRecDepth 100000 in
theorem ct_X10_isNo {l : Launch} {D : va_G} {cI cG cJ cO : ClassId} {K0 : Nat → Nat} {A : Nat → Prop} {L : List (Nat × Nat)} {ad : Nat → Nat → Nat} {ce : Nat → Nat → va_E} {cp : Nat → Nat} {S : (Nat → Nat → Nat → Int32)} (hR : MR S L cp) (hI : CI S) {p1 : Int32} {v : Int32} (hE : sp_X10_isNo S p1 = some v) (sz : Nat) (hA : ∀ q, sz ≤ q → A q) : Met l yX10_isNo bw_X10_isNo (rm_X10_isNo) (kP D (ktys cI cG cJ cO) K0 A L ad (mK cI cO K0 ad cp ce S) sz [.ref (ad 30 0), .int p1]) (kQi D A v L ad (mK cI cO K0 ad cp ce S)) 0 0 A := by
  refine Met.ofW (cc := cX10_isNo) (maxL := 2) (ret := (some .boolean)) (by decide) rfl ?_
  intro p e s m args below meth c s₁ B hml hv_
  obtain ⟨hav, hsz, hP, hD, hK, hO⟩ := hv_
  have hx := B.exec
  have hb := B.bytes
  have hr := B.returns
  have hts : ∀ w ∈ BIG, w.before args s = true := fun w h => atoms_spec (ws := bw_X10_isNo) B.pre w (List.mem_cons_of_mem _ h)
  have hown : s.vm.findClass RX10 = some m.cls := findClass_of_methodNamed B.named
  have hlocks := B.notSynchronized
  subst hsz
  have hw := wk.start hP hD
  refine k_start (by rfl) hav (Nat.le_of_ble_eq_true rfl) (fun ls hl => ?_)
  have hl : lv_has ls 2 [(0, .ref (ad 30 0)), (1, .int p1)] := hl
  unfold sp_X10_isNo at hE
  refine lv_iload_n hx hb dX10_isNo_0 rfl (lv_at hl 1 rfl) ?_
  refine lv_iconst (v := 0) hx hb dX10_isNo_1 (by decide) ?_
  refine lv_aload_n hx hb dX10_isNo_2 rfl (lv_at hl 0 rfl) ?_
  refine k_get (C := RX10) (T := TX10) (N := 9) (v := .ref (ad 35 0)) hx hb hts inB_X10 hown hK hw (hR.1 30 (by decide) (by decide)) mke_30 rfl 7 (by decide) (hts _ w_f_X10_32) (fun _ h9 => h9) rfl dX10_isNo_3 ?_
  refine k_ci0 hw (k_rV (f := 35) (o := 0) (As := []) (rest := [.int 0, .int p1]) ⟨hx, hb, hml, hown, hts⟩ hK hO hw (ct_size_4 (SM.rf S) hR _ (wk.hA hw hA)) (cwV 0 hts (gB_V w_ml_X10_43 w_im_Jx4a65c_size_8abf5 w_se_Jx4a65c_size_8abf5 w_in_Jx4a65c w_co_Jx4a65c_size_8abf5) rfl rfl rfl (by decide +kernel) ⟨Nat.le_of_ble_eq_true rfl, Nat.le_of_ble_eq_true rfl⟩) (hR.1 35 (by decide) (by decide)) (ce_l4 (SM.rf S)) rfl rfl hl.1 rfl (Nat.le_of_ble_eq_true rfl) dX10_isNo_6 ⟨(Nat.le_of_ble_eq_true rfl), (Nat.le_of_ble_eq_true rfl)⟩) (fun H locs hw => ?_)
  refine lv_iconst (v := 1) hx hb dX10_isNo_9 (by decide) ?_
  refine lv_isub hx hb dX10_isNo_10 ?_
  refine k_ci0 hw (k_rS (As := [.int p1, .int 0, .int ((S 0 0 0) - 1)]) (rest := []) ⟨hx, hb, hml, hown, hts⟩ hK hO hw (ct_X10_isFrom p1 0 ((S 0 0 0) - 1) _ (wk.hA hw hA)) (va_cwS 3 hts (gB_S w_ml_X10_47 w_st_X10_isFrom w_in_X10 w_co_X10_isFrom) rfl rfl rfl (by decide +kernel) ⟨Nat.le_of_ble_eq_true rfl, Nat.le_of_ble_eq_true rfl⟩) rfl hl.1 rfl (Nat.le_of_ble_eq_true rfl) dX10_isNo_11 ⟨(Nat.le_of_ble_eq_true rfl), (Nat.le_of_ble_eq_true rfl)⟩) (fun H locs hw => ?_)
  refine lv_if_ne (tgt := 21) hx hb dX10_isNo_14 (by decide) (fun c_1 => ?_) (fun c_1 => ?_)
  · have hE := (if_neg c_1).symm.trans hE
    refine lv_iconst (v := 0) hx hb dX10_isNo_21 (by decide) ?_
    exact m_iret hx hb hr hlocks rfl hw hE (Nat.le_of_ble_eq_true rfl) (Nat.le_of_ble_eq_true rfl) dX10_isNo_22
  · have hE := (if_pos c_1).symm.trans hE
    refine lv_iconst (v := 1) hx hb dX10_isNo_17 (by decide) ?_
    refine lv_goto (tgt := 22) hx hb dX10_isNo_18 (by decide) ?_
    exact m_iret hx hb hr hlocks rfl hw hE (Nat.le_of_ble_eq_true rfl) (Nat.le_of_ble_eq_true rfl) dX10_isNo_22

abbrev bw_X10_isNoJoiner : List Cond := .code yX10_isNoJoiner cX10_isNoJoiner 2 (some .boolean) :: BIG
abbrev rm_X10_isNoJoiner : Room := { frames := 3, cells := 0, slots := 0, locals := 56 }
noncomputable def sp_X10_isNoJoiner (S : (Nat → Nat → Nat → Int32)) (p1 : Int32) : Option (Int32 × (Nat → Nat → Nat → Int32)) := (sp_X10_isNo S p1).bind fun x_1 => ((sp_X10_start S x_1 1).bind fun x_2 => (some ((x_2.1, x_2.2))))
theorem sf_X10_isNoJoiner {S : (Nat → Nat → Nat → Int32)} {p1 : Int32} {v : Int32 × (Nat → Nat → Nat → Int32)} (h : sp_X10_isNoJoiner S p1 = some v) : SM S v.2 := by
  unfold sp_X10_isNoJoiner at h
  obtain ⟨x_1, hx_1, h⟩ := ob1 h
  obtain ⟨x_2, hx_2, h⟩ := ob1 h
  have hz : SM S x_2.2 := (SM.tr (SM.rf S) (sf_X10_start hx_2)); cases h; exact hz

theorem bz_X10_isNoJoiner {S : (Nat → Nat → Nat → Int32)} {p1 : Int32} {v : Int32 × (Nat → Nat → Nat → Int32)} (h : sp_X10_isNoJoiner S p1 = some v) : v.1 = 0 ∨ v.1 = 1 := by
  unfold sp_X10_isNoJoiner at h
  obtain ⟨x_1, hx_1, h⟩ := ob1 h
  obtain ⟨x_2, hx_2, h⟩ := ob1 h
  cases h; exact bz_X10_start hx_2

set_option maxHeartbeats 1000000 in
set_option maxRecDepth 100000 in
theorem ct_X10_isNoJoiner {l : Launch} {D : va_G} {cI cG cJ cO : ClassId} {K0 : Nat → Nat} {A : Nat → Prop} {L : List (Nat × Nat)} {ad : Nat → Nat → Nat} {ce : Nat → Nat → va_E} {cp : Nat → Nat} {S : (Nat → Nat → Nat → Int32)} (hR : MR S L cp) (hI : CI S) {p1 : Int32} {v : Int32 × (Nat → Nat → Nat → Int32)} (hE : sp_X10_isNoJoiner S p1 = some v) (sz : Nat) (hA : ∀ q, sz ≤ q → A q) : Met l yX10_isNoJoiner bw_X10_isNoJoiner (rm_X10_isNoJoiner) (kP D (ktys cI cG cJ cO) K0 A L ad (mK cI cO K0 ad cp ce S) sz [.ref (ad 30 0), .int p1]) (kQi D A v.1 L ad (mK cI cO K0 ad cp ce v.2)) 0 0 A := by
  refine Met.ofW (cc := cX10_isNoJoiner) (maxL := 2) (ret := (some .boolean)) (by decide) rfl ?_
  intro p e s m args below meth c s₁ B hml hv_
  obtain ⟨hav, hsz, hP, hD, hK, hO⟩ := hv_
  have hx := B.exec
  have hb := B.bytes
  have hr := B.returns
  have hts : ∀ w ∈ BIG, w.before args s = true := fun w h => atoms_spec (ws := bw_X10_isNoJoiner) B.pre w (List.mem_cons_of_mem _ h)
  have hown : s.vm.findClass RX10 = some m.cls := findClass_of_methodNamed B.named
  have hlocks := B.notSynchronized
  subst hsz
  have hw := wk.start hP hD
  refine k_start (by rfl) hav (Nat.le_of_ble_eq_true rfl) (fun ls hl => ?_)
  have hl : lv_has ls 2 [(0, .ref (ad 30 0)), (1, .int p1)] := hl
  unfold sp_X10_isNoJoiner at hE
  refine lv_aload_n hx hb dX10_isNoJoiner_0 rfl (lv_at hl 0 rfl) ?_
  refine lv_aload_n hx hb dX10_isNoJoiner_1 rfl (lv_at hl 0 rfl) ?_
  refine lv_iload_n hx hb dX10_isNoJoiner_2 rfl (lv_at hl 1 rfl) ?_
  obtain ⟨x_1, hx_1, hE⟩ := ob1 hE
  refine k_ci0 hw (k_rV (f := 30) (o := 0) (As := [.int p1]) (rest := [.ref (ad 30 0)]) ⟨hx, hb, hml, hown, hts⟩ hK hO hw (ct_X10_isNo (MR.sm (SM.rf S) hR) (SM.ci (SM.rf S) hI) hx_1 _ (wk.hA hw hA)) (cwV 1 hts (gB_V w_ml_X10_247 w_im_X10_isNo w_se_X10_isNo w_in_X10 w_co_X10_isNo) rfl rfl rfl (by decide +kernel) ⟨Nat.le_of_ble_eq_true rfl, Nat.le_of_ble_eq_true rfl⟩) (hR.1 30 (by decide) (by decide)) mke_30 rfl rfl hl.1 rfl (Nat.le_of_ble_eq_true rfl) dX10_isNoJoiner_3 ⟨(Nat.le_of_ble_eq_true rfl), (Nat.le_of_ble_eq_true rfl)⟩) (fun H locs hw => ?_)
  refine lv_iconst (v := 1) hx hb dX10_isNoJoiner_6 (by decide) ?_
  obtain ⟨x_2, hx_2, hE⟩ := ob1 hE
  refine k_ci0 hw (k_rV (f := 30) (o := 0) (As := [.int x_1, .int 1]) (rest := []) ⟨hx, hb, hml, hown, hts⟩ hK hO hw (ct_X10_start (MR.sm (SM.rf S) hR) (SM.ci (SM.rf S) hI) hx_2 _ (wk.hA hw hA)) (cwV 2 hts (gB_V w_ml_X10_186 w_im_X10_start w_se_X10_start w_in_X10 w_co_X10_start) rfl rfl rfl (by decide +kernel) ⟨Nat.le_of_ble_eq_true rfl, Nat.le_of_ble_eq_true rfl⟩) (hR.1 30 (by decide) (by decide)) mke_30 rfl rfl hl.1 rfl (Nat.le_of_ble_eq_true rfl) dX10_isNoJoiner_7 ⟨(Nat.le_of_ble_eq_true rfl), (Nat.le_of_ble_eq_true rfl)⟩) (fun H locs hw => ?_)
  exact m_iretE hx hb hr hlocks (k_nz (bz_X10_start hx_2)) hw hE (Nat.le_of_ble_eq_true rfl) (Nat.le_of_ble_eq_true rfl) dX10_isNoJoiner_10

abbrev bw_X6_has : List Cond := .code yX6_has cX6_has 2 (some .boolean) :: BIG
abbrev rm_X6_has : Room := { frames := 1, cells := 0, slots := 0, locals := 21 }
noncomputable def sp_X6_has (S : (Nat → Nat → Nat → Int32)) (j : Nat) (p1 : Int32) : Option (Int32) := some ((sp_X10_isIn (S 6 j 0) p1))
theorem bz_X6_has {S : (Nat → Nat → Nat → Int32)} {j : Nat} {p1 : Int32} {v : Int32} (h : sp_X6_has S j p1 = some v) : v = 0 ∨ v = 1 := by
  unfold sp_X6_has at h
  cases h; exact bz_X10_isIn _ _

set_option maxHeartbeats 1000000 in
set_option maxRecDepth 100000 in
theorem ct_X6_has {l : Launch} {D : va_G} {cI cG cJ cO : ClassId} {K0 : Nat → Nat} {A : Nat → Prop} {L : List (Nat × Nat)} {ad : Nat → Nat → Nat} {ce : Nat → Nat → va_E} {cp : Nat → Nat} {S : (Nat → Nat → Nat → Int32)} (hR : MR S L cp) (hI : CI S) {j : Nat} {p1 : Int32} (hj : j < (S 0 0 0).toNatClampNeg) {v : Int32} (hE : sp_X6_has S j p1 = some v) (sz : Nat) (hA : ∀ q, sz ≤ q → A q) : Met l yX6_has bw_X6_has (rm_X6_has) (kP D (ktys cI cG cJ cO) K0 A L ad (mK cI cO K0 ad cp ce S) sz [.ref (ad 46 j), .int p1]) (kQi D A v L ad (mK cI cO K0 ad cp ce S)) 0 0 A := by
  refine Met.ofW (cc := cX6_has) (maxL := 2) (ret := (some .boolean)) (by decide) rfl ?_
  intro p e s m args below meth c s₁ B hml hv_
  obtain ⟨hav, hsz, hP, hD, hK, hO⟩ := hv_
  have hx := B.exec
  have hb := B.bytes
  have hr := B.returns
  have hts : ∀ w ∈ BIG, w.before args s = true := fun w h => atoms_spec (ws := bw_X6_has) B.pre w (List.mem_cons_of_mem _ h)
  have hown : s.vm.findClass RX6 = some m.cls := findClass_of_methodNamed B.named
  have hlocks := B.notSynchronized
  subst hsz
  have hw := wk.start hP hD
  refine k_start (by rfl) hav (Nat.le_of_ble_eq_true rfl) (fun ls hl => ?_)
  have hl : lv_has ls 2 [(0, .ref (ad 46 j)), (1, .int p1)] := hl
  unfold sp_X6_has at hE
  refine lv_aload_n hx hb dX6_has_0 rfl (lv_at hl 0 rfl) ?_
  refine k_get (C := RX6) (T := TX6) (N := 8) (v := .int (S 6 j 0)) hx hb hts inB_X6 hown hK hw (hR.2.2.2.2.2.2.2 46 _ (by decide) (by decide) hj) mke_46 rfl 0 (by decide) (hts _ w_f_X6_27) (fun _ h9 => h9) rfl dX6_has_1 ?_
  refine lv_iload_n hx hb dX6_has_4 rfl (lv_at hl 1 rfl) ?_
  refine k_ci0 hw (k_rSN (As := [.int (S 6 j 0), .int p1]) (rest := []) ⟨hx, hb, hml, hown, hts⟩ hK hO hw (ct_X10_isIn (S 6 j 0) p1 _ (wk.hA hw hA)) (⟨va_cnB 2 hts (gB_0 w_co_X10_isIn) rfl rfl rfl (hO.2.2.1 _ w_mn_X6_34) (hts _ w_in_X10) (by decide +kernel) ⟨Nat.le_of_ble_eq_true rfl, Nat.le_of_ble_eq_true rfl⟩, hts _ w_st_X10_isIn, trivial⟩) rfl hl.1 rfl (Nat.le_of_ble_eq_true rfl) dX6_has_5 ⟨(Nat.le_of_ble_eq_true rfl), (Nat.le_of_ble_eq_true rfl)⟩) (fun H locs hw => ?_)
  exact m_iret hx hb hr hlocks (k_nz (bz_X10_isIn _ _)) hw hE (Nat.le_of_ble_eq_true rfl) (Nat.le_of_ble_eq_true rfl) dX6_has_8

abbrev bw_X6_is : List Cond := .code yX6_is cX6_is 3 (some .boolean) :: BIG
abbrev rm_X6_is : Room := { frames := 2, cells := 0, slots := 0, locals := 42 }
noncomputable def sp_X6_is (S : (Nat → Nat → Nat → Int32)) (j : Nat) (p1 : Int32) (p2 : Int32) : Option (Int32) := (sp_X6_has S j p1).bind fun x_1 => (if x_1 = 0 then (some (0)) else (if p1 < 0 ∨ 12 ≤ p1.toNatClampNeg then none else (if S 24 j p1.toNatClampNeg = p2 then (some (1)) else (some (0)))))
theorem bz_X6_is {S : (Nat → Nat → Nat → Int32)} {j : Nat} {p1 : Int32} {p2 : Int32} {v : Int32} (h : sp_X6_is S j p1 p2 = some v) : v = 0 ∨ v = 1 := by
  unfold sp_X6_is at h
  obtain ⟨x_1, hx_1, h⟩ := ob1 h
  by_cases q_5 : x_1 = 0
  · have h := (if_pos q_5).symm.trans h
    cases h; exact Or.inl rfl
  · have h := (if_neg q_5).symm.trans h
    by_cases q_6 : p1 < 0 ∨ 12 ≤ p1.toNatClampNeg
    · exact nomatch (if_pos q_6).symm.trans h
    have h := (if_neg q_6).symm.trans h
    by_cases q_7 : S 24 j p1.toNatClampNeg = p2
    · have h := (if_pos q_7).symm.trans h
      cases h; exact Or.inr rfl
    · have h := (if_neg q_7).symm.trans h
      cases h; exact Or.inl rfl

set_option maxHeartbeats 1000000 in
set_option maxRecDepth 100000 in
theorem ct_X6_is {l : Launch} {D : va_G} {cI cG cJ cO : ClassId} {K0 : Nat → Nat} {A : Nat → Prop} {L : List (Nat × Nat)} {ad : Nat → Nat → Nat} {ce : Nat → Nat → va_E} {cp : Nat → Nat} {S : (Nat → Nat → Nat → Int32)} (hR : MR S L cp) (hI : CI S) {j : Nat} {p1 : Int32} {p2 : Int32} (hj : j < (S 0 0 0).toNatClampNeg) {v : Int32} (hE : sp_X6_is S j p1 p2 = some v) (sz : Nat) (hA : ∀ q, sz ≤ q → A q) : Met l yX6_is bw_X6_is (rm_X6_is) (kP D (ktys cI cG cJ cO) K0 A L ad (mK cI cO K0 ad cp ce S) sz [.ref (ad 46 j), .int p1, .int p2]) (kQi D A v L ad (mK cI cO K0 ad cp ce S)) 0 0 A := by
  refine Met.ofW (cc := cX6_is) (maxL := 3) (ret := (some .boolean)) (by decide) rfl ?_
  intro p e s m args below meth c s₁ B hml hv_
  obtain ⟨hav, hsz, hP, hD, hK, hO⟩ := hv_
  have hx := B.exec
  have hb := B.bytes
  have hr := B.returns
  have hts : ∀ w ∈ BIG, w.before args s = true := fun w h => atoms_spec (ws := bw_X6_is) B.pre w (List.mem_cons_of_mem _ h)
  have hown : s.vm.findClass RX6 = some m.cls := findClass_of_methodNamed B.named
  have hlocks := B.notSynchronized
  subst hsz
  have hw := wk.start hP hD
  refine k_start (by rfl) hav (Nat.le_of_ble_eq_true rfl) (fun ls hl => ?_)
  have hl : lv_has ls 3 [(0, .ref (ad 46 j)), (1, .int p1), (2, .int p2)] := hl
  unfold sp_X6_is at hE
  refine lv_aload_n hx hb dX6_is_0 rfl (lv_at hl 0 rfl) ?_
  refine lv_iload_n hx hb dX6_is_1 rfl (lv_at hl 1 rfl) ?_
  obtain ⟨x_1, hx_1, hE⟩ := ob1 hE
  refine k_ci0 hw (k_rV (f := 46) (o := j) (As := [.int p1]) (rest := []) ⟨hx, hb, hml, hown, hts⟩ hK hO hw (ct_X6_has (MR.sm (SM.rf S) hR) (SM.ci (SM.rf S) hI) (by rw [SM.c4 (SM.rf S)]; exact hj) hx_1 _ (wk.hA hw hA)) (cwV 1 hts (gB_V w_ml_X6_38 w_im_X6_has w_se_X6_has w_in_X6 w_co_X6_has) rfl rfl rfl (by decide +kernel) ⟨Nat.le_of_ble_eq_true rfl, Nat.le_of_ble_eq_true rfl⟩) (hR.2.2.2.2.2.2.2 46 _ (by decide) (by decide) hj) mke_46 rfl rfl hl.1 rfl (Nat.le_of_ble_eq_true rfl) dX6_is_2 ⟨(Nat.le_of_ble_eq_true rfl), (Nat.le_of_ble_eq_true rfl)⟩) (fun H locs hw => ?_)
  refine lv_if_eq (tgt := 22) hx hb dX6_is_5 (by decide) (fun c_2 => ?_) (fun c_2 => ?_)
  · have hE := (if_pos c_2).symm.trans hE
    refine lv_iconst (v := 0) hx hb dX6_is_22 (by decide) ?_
    exact m_iret hx hb hr hlocks rfl hw hE (Nat.le_of_ble_eq_true rfl) (Nat.le_of_ble_eq_true rfl) dX6_is_23
  · have hE := (if_neg c_2).symm.trans hE
    refine lv_aload_n hx hb dX6_is_8 rfl (lv_at hl 0 rfl) ?_
    refine k_get (C := RX6) (T := TX6) (N := 8) (v := .ref (ad 47 j)) hx hb hts inB_X6 hown hK hw (hR.2.2.2.2.2.2.2 46 _ (by decide) (by decide) hj) mke_46 rfl 2 (by decide) (hts _ w_f_X6_9) (fun _ h9 => h9) rfl dX6_is_9 ?_
    refine lv_iload_n hx hb dX6_is_12 rfl (lv_at hl 1 rfl) ?_
    by_cases c_3 : p1 < 0 ∨ 12 ≤ p1.toNatClampNeg
    · exact nomatch (if_pos c_3).symm.trans hE
    have hE := (if_neg c_3).symm.trans hE
    refine k_aldi hx hb hK hw (hR.2.2.2.2.2.2.2 47 _ (by decide) (by decide) hj) 0 mke_47 rfl (fun z => c_3 (Or.inl z)) rfl (Nat.not_le.mp fun z => c_3 (Or.inr z)) (v := S 24 j p1.toNatClampNeg) rfl dX6_is_13 ?_
    refine lv_iload_n hx hb dX6_is_14 rfl (lv_at hl 2 rfl) ?_
    refine lv_icmp_ne (tgt := 22) hx hb dX6_is_15 (by decide) (fun c_4 => ?_) (fun c_4 => ?_)
    · have hE := (if_neg c_4).symm.trans hE
      refine lv_iconst (v := 0) hx hb dX6_is_22 (by decide) ?_
      exact m_iret hx hb hr hlocks rfl hw hE (Nat.le_of_ble_eq_true rfl) (Nat.le_of_ble_eq_true rfl) dX6_is_23
    · have hE := (if_pos c_4).symm.trans hE
      refine lv_iconst (v := 1) hx hb dX6_is_18 (by decide) ?_
      refine lv_goto (tgt := 23) hx hb dX6_is_19 (by decide) ?_
      exact m_iret hx hb hr hlocks rfl hw hE (Nat.le_of_ble_eq_true rfl) (Nat.le_of_ble_eq_true rfl) dX6_is_23

abbrev bw_X6_in : List Cond := .code yX6_in cX6_in 4 (some .int) :: BIG
abbrev rm_X6_in : Room := { frames := 3, cells := 0, slots := 0, locals := 64 }
noncomputable def lp_X6_in_4 (S : (Nat → Nat → Nat → Int32)) (j : Nat) (p1 : Int32) : Nat → Nat → Int32 → Option (Int32)
  | 0, i, v2 => some (v2)
  | k + 1, i, v2 => (sp_X6_is S j (nI i) p1).bind fun x_2 => (lp_X6_in_4 S j p1 k (i + 1) (v2 + (if x_2 = 0 then 0 else 1)))
theorem lz_lp_X6_in_4 (S : (Nat → Nat → Nat → Int32)) (j : Nat) (p1 : Int32) (i : Nat) (v2 : Int32) : lp_X6_in_4 S j p1 0 i v2 = some (v2) := rfl
theorem ls_lp_X6_in_4 (S : (Nat → Nat → Nat → Int32)) (j : Nat) (p1 : Int32) (k i : Nat) (v2 : Int32) : lp_X6_in_4 S j p1 (k + 1) i v2 = (sp_X6_is S j (nI i) p1).bind fun x_2 => (lp_X6_in_4 S j p1 k (i + 1) (v2 + (if x_2 = 0 then 0 else 1))) := rfl
noncomputable def sp_X6_in (S : (Nat → Nat → Nat → Int32)) (j : Nat) (p1 : Int32) : Option (Int32) := (lp_X6_in_4 S j p1 12 0 0).bind (fun w_1 => (some (w_1)))
set_option maxHeartbeats 1000000 in
set_option maxRecDepth 100000 in
theorem ct_X6_in {l : Launch} {D : va_G} {cI cG cJ cO : ClassId} {K0 : Nat → Nat} {A : Nat → Prop} {L : List (Nat × Nat)} {ad : Nat → Nat → Nat} {ce : Nat → Nat → va_E} {cp : Nat → Nat} {S : (Nat → Nat → Nat → Int32)} (hR : MR S L cp) (hI : CI S) {j : Nat} {p1 : Int32} (hj : j < (S 0 0 0).toNatClampNeg) {v : Int32} (hE : sp_X6_in S j p1 = some v) (sz : Nat) (hA : ∀ q, sz ≤ q → A q) : Met l yX6_in bw_X6_in (rm_X6_in) (kP D (ktys cI cG cJ cO) K0 A L ad (mK cI cO K0 ad cp ce S) sz [.ref (ad 46 j), .int p1]) (kQi D A v L ad (mK cI cO K0 ad cp ce S)) 0 0 A := by
  refine Met.ofW (cc := cX6_in) (maxL := 4) (ret := (some .int)) (by decide) rfl ?_
  intro p e s m args below meth c s₁ B hml hv_
  obtain ⟨hav, hsz, hP, hD, hK, hO⟩ := hv_
  have hx := B.exec
  have hb := B.bytes
  have hr := B.returns
  have hts : ∀ w ∈ BIG, w.before args s = true := fun w h => atoms_spec (ws := bw_X6_in) B.pre w (List.mem_cons_of_mem _ h)
  have hown : s.vm.findClass RX6 = some m.cls := findClass_of_methodNamed B.named
  have hlocks := B.notSynchronized
  subst hsz
  have hw := wk.start hP hD
  refine k_start (by rfl) hav (Nat.le_of_ble_eq_true rfl) (fun ls hl => ?_)
  have hl : lv_has ls 4 [(0, .ref (ad 46 j)), (1, .int p1)] := hl
  unfold sp_X6_in at hE
  refine lv_iconst (v := 0) hx hb dX6_in_0 (by decide) ?_
  refine lv_istore_n (lv' := [(2, .int 0), (0, .ref (ad 46 j)), (1, .int p1)]) hx hb dX6_in_1 rfl hl (by decide) rfl (fun ls hl => ?_)
  refine lv_iconst (v := 0) hx hb dX6_in_2 (by decide) ?_
  refine lv_istore_n (lv' := [(3, .int 0), (2, .int 0), (0, .ref (ad 46 j)), (1, .int p1)]) hx hb dX6_in_3 rfl hl (by decide) rfl (fun ls hl => ?_)
  obtain ⟨w_1, hL_4, hE⟩ := ob1 hE
  have key_4 : ∀ (k i : Nat) (v2 : Int32) (H : Heap) (locs : List Loc) (ls : Array Slot), i + k = 12 → lp_X6_in_4 S j p1 k i v2 = some (w_1) → wk D A (L) ad (mK cI cO K0 ad cp ce S) s.heap H locs → lv_has ls 4 [(0, .ref (ad 46 j)), (1, .int p1), (2, .int v2), (3, .int (nI i))] → W p l e (headSpec bw_X6_in (rm_X6_in)).room s m args below meth c H locs 0 0 (MQ below (kQi D A v L ad (mK cI cO K0 ad cp ce S)) args s 0 0 A) (F0 m 4 ls []) := by
    intro k
    induction k with
    | zero =>
      intro i v2 H locs ls hk hV hw hl
      have hV := (lz_lp_X6_in_4 S j p1 i v2).symm.trans hV
      obtain rfl := (Option.some.inj hV).symm
      refine lv_iload_n hx hb dX6_in_4 rfl (lv_at hl 3 rfl) ?_
      refine lv_bipush (v := 12) hx hb dX6_in_5 (by decide) ?_
      refine lv_icmp_ge (tgt := 33) hx hb dX6_in_7 (by decide) (fun _ => ?_) (fun h => absurd (lp_o rfl hk (by decide)) h)
      refine lv_iload_n hx hb dX6_in_33 rfl (lv_at hl 2 rfl) ?_
      exact m_iret hx hb hr hlocks rfl hw hE (Nat.le_of_ble_eq_true rfl) (Nat.le_of_ble_eq_true rfl) dX6_in_34
    | succ k ih =>
      intro i v2 H locs ls hk hV hw hl
      have hV := (ls_lp_X6_in_4 S j p1 k i v2).symm.trans hV
      have hE := hV
      refine lv_iload_n hx hb dX6_in_4 rfl (lv_at hl 3 rfl) ?_
      refine lv_bipush (v := 12) hx hb dX6_in_5 (by decide) ?_
      refine lv_icmp_ge (tgt := 33) hx hb dX6_in_7 (by decide) (fun h => absurd h (lp_i rfl hk (by decide))) (fun _ => ?_)
      refine lv_iload_n hx hb dX6_in_10 rfl (lv_at hl 2 rfl) ?_
      refine lv_aload_n hx hb dX6_in_11 rfl (lv_at hl 0 rfl) ?_
      refine lv_iload_n hx hb dX6_in_12 rfl (lv_at hl 3 rfl) ?_
      refine lv_iload_n hx hb dX6_in_13 rfl (lv_at hl 1 rfl) ?_
      obtain ⟨x_2, hx_2, hE⟩ := ob1 hE
      refine k_ci0 hw (k_rV (f := 46) (o := j) (As := [.int (nI i), .int p1]) (rest := [.int v2]) ⟨hx, hb, hml, hown, hts⟩ hK hO hw (ct_X6_is (MR.sm (SM.rf S) hR) (SM.ci (SM.rf S) hI) (by rw [SM.c4 (SM.rf S)]; exact hj) hx_2 _ (wk.hA hw hA)) (cwV 2 hts (gB_V w_ml_X6_42 w_im_X6_is w_se_X6_is w_in_X6 w_co_X6_is) rfl rfl rfl (by decide +kernel) ⟨Nat.le_of_ble_eq_true rfl, Nat.le_of_ble_eq_true rfl⟩) (hR.2.2.2.2.2.2.2 46 _ (by decide) (by decide) hj) mke_46 rfl rfl hl.1 rfl (Nat.le_of_ble_eq_true rfl) dX6_in_14 ⟨(Nat.le_of_ble_eq_true rfl), (Nat.le_of_ble_eq_true rfl)⟩) (fun H locs hw => ?_)
      have hjc_3 : ∀ bc_3 : Int32, bc_3 = (if x_2 = 0 then 0 else 1) → W p l e (headSpec bw_X6_in (rm_X6_in)).room s m args below meth c H locs 0 0 (MQ below (kQi D A v L ad (mK cI cO K0 ad cp ce S)) args s 0 0 A) (F0 m 25 ls [.int bc_3, .int v2]) := by
        intro bc_3 hbc_3
        subst hbc_3
        refine lv_iadd hx hb dX6_in_25 ?_
        refine lv_istore_n (lv' := [(2, .int (v2 + (if x_2 = 0 then 0 else 1))), (0, .ref (ad 46 j)), (1, .int p1), (3, .int (nI i))]) hx hb dX6_in_26 rfl hl (by decide) rfl (fun ls hl => ?_)
        refine lv_iinc (v := (nI (i + 1))) (lv' := [(3, .int (nI (i + 1))), (2, .int (v2 + (if x_2 = 0 then 0 else 1))), (0, .ref (ad 46 j)), (1, .int p1)]) hx hb dX6_in_27 hl (k := 3) rfl (nI_1 _) (by decide) rfl (fun ls hl => ?_)
        refine lv_goto (tgt := 4) hx hb dX6_in_30 (by decide) ?_
        exact ih (i + 1) (v2 + (if x_2 = 0 then 0 else 1)) _ _ _ (lp_s hk) hE hw (lv_sub hl [2, 3, 1, 0] rfl)
      refine lv_if_eq (tgt := 24) hx hb dX6_in_17 (by decide) (fun c_3 => ?_) (fun c_3 => ?_)
      · refine lv_iconst (v := 0) hx hb dX6_in_24 (by decide) ?_
        exact hjc_3 _ (if_pos c_3).symm
      · refine lv_iconst (v := 1) hx hb dX6_in_20 (by decide) ?_
        refine lv_goto (tgt := 25) hx hb dX6_in_21 (by decide) ?_
        exact hjc_3 _ (if_neg c_3).symm
  exact key_4 12 0 0 _ _ _ (Nat.zero_add _) hL_4 hw (lv_sub hl [2, 3, 1, 0] rfl)

abbrev bw_X6_hasAll : List Cond := .code yX6_hasAll cX6_hasAll 3 (some .boolean) :: BIG
abbrev rm_X6_hasAll : Room := { frames := 3, cells := 0, slots := 0, locals := 64 }
noncomputable def lp_X6_hasAll_2 (S : (Nat → Nat → Nat → Int32)) (j : Nat) (p1 : Int32) : Nat → Nat → Option (Int32)
  | 0, i => some (1)
  | k + 1, i => if (sp_X10_isIn p1 (nI i)) = 0 then (lp_X6_hasAll_2 S j p1 k (i + 1)) else ((sp_X6_is S j (nI i) 2).bind fun x_2 => (if x_2 = 0 then (some (0)) else (lp_X6_hasAll_2 S j p1 k (i + 1))))
theorem lz_lp_X6_hasAll_2 (S : (Nat → Nat → Nat → Int32)) (j : Nat) (p1 : Int32) (i : Nat) : lp_X6_hasAll_2 S j p1 0 i = some (1) := rfl
theorem ls_lp_X6_hasAll_2 (S : (Nat → Nat → Nat → Int32)) (j : Nat) (p1 : Int32) (k i : Nat) : lp_X6_hasAll_2 S j p1 (k + 1) i = if (sp_X10_isIn p1 (nI i)) = 0 then (lp_X6_hasAll_2 S j p1 k (i + 1)) else ((sp_X6_is S j (nI i) 2).bind fun x_2 => (if x_2 = 0 then (some (0)) else (lp_X6_hasAll_2 S j p1 k (i + 1)))) := rfl
theorem bzl_lp_X6_hasAll_2 {S : (Nat → Nat → Nat → Int32)} {j : Nat} {p1 : Int32} : ∀ (k i : Nat) (v : Int32), lp_X6_hasAll_2 S j p1 k i = some v → v = 0 ∨ v = 1 := by
  intro k
  induction k with
  | zero => 
    intro i v h
    have h := (lz_lp_X6_hasAll_2 S j p1 i).symm.trans h
    cases h; exact Or.inr rfl
  | succ k ih => 
    intro i v h
    have h := (ls_lp_X6_hasAll_2 S j p1 k i).symm.trans h
    by_cases q_4 : (sp_X10_isIn p1 (nI i)) = 0
    · have h := (if_pos q_4).symm.trans h
      exact ih _ _ h
    · have h := (if_neg q_4).symm.trans h
      obtain ⟨x_2, hx_2, h⟩ := ob1 h
      by_cases q_5 : x_2 = 0
      · have h := (if_pos q_5).symm.trans h
        cases h; exact Or.inl rfl
      · have h := (if_neg q_5).symm.trans h
        exact ih _ _ h

noncomputable def sp_X6_hasAll (S : (Nat → Nat → Nat → Int32)) (j : Nat) (p1 : Int32) : Option (Int32) := lp_X6_hasAll_2 S j p1 12 0
theorem bz_X6_hasAll {S : (Nat → Nat → Nat → Int32)} {j : Nat} {p1 : Int32} {v : Int32} (h : sp_X6_hasAll S j p1 = some v) : v = 0 ∨ v = 1 := by
  unfold sp_X6_hasAll at h
  exact bzl_lp_X6_hasAll_2 _ _ _ h

set_option maxHeartbeats 1000000 in
set_option maxRecDepth 100000 in
theorem ct_X6_hasAll {l : Launch} {D : va_G} {cI cG cJ cO : ClassId} {K0 : Nat → Nat} {A : Nat → Prop} {L : List (Nat × Nat)} {ad : Nat → Nat → Nat} {ce : Nat → Nat → va_E} {cp : Nat → Nat} {S : (Nat → Nat → Nat → Int32)} (hR : MR S L cp) (hI : CI S) {j : Nat} {p1 : Int32} (hj : j < (S 0 0 0).toNatClampNeg) {v : Int32} (hE : sp_X6_hasAll S j p1 = some v) (sz : Nat) (hA : ∀ q, sz ≤ q → A q) : Met l yX6_hasAll bw_X6_hasAll (rm_X6_hasAll) (kP D (ktys cI cG cJ cO) K0 A L ad (mK cI cO K0 ad cp ce S) sz [.ref (ad 46 j), .int p1]) (kQi D A v L ad (mK cI cO K0 ad cp ce S)) 0 0 A := by
  refine Met.ofW (cc := cX6_hasAll) (maxL := 3) (ret := (some .boolean)) (by decide) rfl ?_
  intro p e s m args below meth c s₁ B hml hv_
  obtain ⟨hav, hsz, hP, hD, hK, hO⟩ := hv_
  have hx := B.exec
  have hb := B.bytes
  have hr := B.returns
  have hts : ∀ w ∈ BIG, w.before args s = true := fun w h => atoms_spec (ws := bw_X6_hasAll) B.pre w (List.mem_cons_of_mem _ h)
  have hown : s.vm.findClass RX6 = some m.cls := findClass_of_methodNamed B.named
  have hlocks := B.notSynchronized
  subst hsz
  have hw := wk.start hP hD
  refine k_start (by rfl) hav (Nat.le_of_ble_eq_true rfl) (fun ls hl => ?_)
  have hl : lv_has ls 3 [(0, .ref (ad 46 j)), (1, .int p1)] := hl
  unfold sp_X6_hasAll at hE
  refine lv_iconst (v := 0) hx hb dX6_hasAll_0 (by decide) ?_
  refine lv_istore_n (lv' := [(2, .int 0), (0, .ref (ad 46 j)), (1, .int p1)]) hx hb dX6_hasAll_1 rfl hl (by decide) rfl (fun ls hl => ?_)
  have key_2 : ∀ (k i : Nat) (H : Heap) (locs : List Loc) (ls : Array Slot), i + k = 12 → lp_X6_hasAll_2 S j p1 k i = some v → wk D A (L) ad (mK cI cO K0 ad cp ce S) s.heap H locs → lv_has ls 3 [(0, .ref (ad 46 j)), (1, .int p1), (2, .int (nI i))] → W p l e (headSpec bw_X6_hasAll (rm_X6_hasAll)).room s m args below meth c H locs 0 0 (MQ below (kQi D A v L ad (mK cI cO K0 ad cp ce S)) args s 0 0 A) (F0 m 2 ls []) := by
    intro k
    induction k with
    | zero =>
      intro i H locs ls hk hE hw hl
      have hE := (lz_lp_X6_hasAll_2 S j p1 i).symm.trans hE
      refine lv_iload_n hx hb dX6_hasAll_2 rfl (lv_at hl 2 rfl) ?_
      refine lv_bipush (v := 12) hx hb dX6_hasAll_3 (by decide) ?_
      refine lv_icmp_ge (tgt := 33) hx hb dX6_hasAll_5 (by decide) (fun _ => ?_) (fun h => absurd (lp_o rfl hk (by decide)) h)
      refine lv_iconst (v := 1) hx hb dX6_hasAll_33 (by decide) ?_
      exact m_iret hx hb hr hlocks rfl hw hE (Nat.le_of_ble_eq_true rfl) (Nat.le_of_ble_eq_true rfl) dX6_hasAll_34
    | succ k ih =>
      intro i H locs ls hk hE hw hl
      have hE := (ls_lp_X6_hasAll_2 S j p1 k i).symm.trans hE
      refine lv_iload_n hx hb dX6_hasAll_2 rfl (lv_at hl 2 rfl) ?_
      refine lv_bipush (v := 12) hx hb dX6_hasAll_3 (by decide) ?_
      refine lv_icmp_ge (tgt := 33) hx hb dX6_hasAll_5 (by decide) (fun h => absurd h (lp_i rfl hk (by decide))) (fun _ => ?_)
      refine lv_iload_n hx hb dX6_hasAll_8 rfl (lv_at hl 1 rfl) ?_
      refine lv_iload_n hx hb dX6_hasAll_9 rfl (lv_at hl 2 rfl) ?_
      refine k_ci0 hw (k_rSN (As := [.int p1, .int (nI i)]) (rest := []) ⟨hx, hb, hml, hown, hts⟩ hK hO hw (ct_X10_isIn p1 (nI i) _ (wk.hA hw hA)) (⟨va_cnB 2 hts (gB_0 w_co_X10_isIn) rfl rfl rfl (hO.2.2.1 _ w_mn_X6_34) (hts _ w_in_X10) (by decide +kernel) ⟨Nat.le_of_ble_eq_true rfl, Nat.le_of_ble_eq_true rfl⟩, hts _ w_st_X10_isIn, trivial⟩) rfl hl.1 rfl (Nat.le_of_ble_eq_true rfl) dX6_hasAll_10 ⟨(Nat.le_of_ble_eq_true rfl), (Nat.le_of_ble_eq_true rfl)⟩) (fun H locs hw => ?_)
      refine lv_if_eq (tgt := 27) hx hb dX6_hasAll_13 (by decide) (fun c_1 => ?_) (fun c_1 => ?_)
      · have hE := (if_pos c_1).symm.trans hE
        refine lv_iinc (v := (nI (i + 1))) (lv' := [(2, .int (nI (i + 1))), (0, .ref (ad 46 j)), (1, .int p1)]) hx hb dX6_hasAll_27 hl (k := 2) rfl (nI_1 _) (by decide) rfl (fun ls hl => ?_)
        refine lv_goto (tgt := 2) hx hb dX6_hasAll_30 (by decide) ?_
        exact ih (i + 1) _ _ _ (lp_s hk) hE hw (lv_sub hl [1, 2, 0] rfl)
      · have hE := (if_neg c_1).symm.trans hE
        refine lv_aload_n hx hb dX6_hasAll_16 rfl (lv_at hl 0 rfl) ?_
        refine lv_iload_n hx hb dX6_hasAll_17 rfl (lv_at hl 2 rfl) ?_
        refine lv_iconst (v := 2) hx hb dX6_hasAll_18 (by decide) ?_
        obtain ⟨x_2, hx_2, hE⟩ := ob1 hE
        refine k_ci0 hw (k_rV (f := 46) (o := j) (As := [.int (nI i), .int 2]) (rest := []) ⟨hx, hb, hml, hown, hts⟩ hK hO hw (ct_X6_is (MR.sm (SM.rf S) hR) (SM.ci (SM.rf S) hI) (by rw [SM.c4 (SM.rf S)]; exact hj) hx_2 _ (wk.hA hw hA)) (cwV 2 hts (gB_V w_ml_X6_42 w_im_X6_is w_se_X6_is w_in_X6 w_co_X6_is) rfl rfl rfl (by decide +kernel) ⟨Nat.le_of_ble_eq_true rfl, Nat.le_of_ble_eq_true rfl⟩) (hR.2.2.2.2.2.2.2 46 _ (by decide) (by decide) hj) mke_46 rfl rfl hl.1 rfl (Nat.le_of_ble_eq_true rfl) dX6_hasAll_19 ⟨(Nat.le_of_ble_eq_true rfl), (Nat.le_of_ble_eq_true rfl)⟩) (fun H locs hw => ?_)
        refine lv_if_ne (tgt := 27) hx hb dX6_hasAll_22 (by decide) (fun c_3 => ?_) (fun c_3 => ?_)
        · have hE := (if_neg c_3).symm.trans hE
          refine lv_iinc (v := (nI (i + 1))) (lv' := [(2, .int (nI (i + 1))), (0, .ref (ad 46 j)), (1, .int p1)]) hx hb dX6_hasAll_27 hl (k := 2) rfl (nI_1 _) (by decide) rfl (fun ls hl => ?_)
          refine lv_goto (tgt := 2) hx hb dX6_hasAll_30 (by decide) ?_
          exact ih (i + 1) _ _ _ (lp_s hk) hE hw (lv_sub hl [1, 2, 0] rfl)
        · have hE := (if_pos c_3).symm.trans hE
          refine lv_iconst (v := 0) hx hb dX6_hasAll_25 (by decide) ?_
          exact m_iret hx hb hr hlocks rfl hw hE (Nat.le_of_ble_eq_true rfl) (Nat.le_of_ble_eq_true rfl) dX6_hasAll_26
  exact key_2 12 0 _ _ _ (Nat.zero_add _) hE hw (lv_sub hl [1, 2, 0] rfl)

abbrev bw_X6_hasNeeds : List Cond := .code yX6_hasNeeds cX6_hasNeeds 2 (some .boolean) :: BIG
abbrev rm_X6_hasNeeds : Room := { frames := 4, cells := 0, slots := 0, locals := 86 }
noncomputable def sp_X6_hasNeeds (S : (Nat → Nat → Nat → Int32)) (j : Nat) (p1 : Int32) : Option (Int32) := (sp_X6_hasAll S j (p1 &&& (S 6 j 0))).bind fun x_1 => (some (x_1))
theorem bz_X6_hasNeeds {S : (Nat → Nat → Nat → Int32)} {j : Nat} {p1 : Int32} {v : Int32} (h : sp_X6_hasNeeds S j p1 = some v) : v = 0 ∨ v = 1 := by
  unfold sp_X6_hasNeeds at h
  obtain ⟨x_1, hx_1, h⟩ := ob1 h
  cases h; exact bz_X6_hasAll hx_1

set_option maxHeartbeats 1000000 in
set_option maxRecDepth 100000 in
theorem ct_X6_hasNeeds {l : Launch} {D : va_G} {cI cG cJ cO : ClassId} {K0 : Nat → Nat} {A : Nat → Prop} {L : List (Nat × Nat)} {ad : Nat → Nat → Nat} {ce : Nat → Nat → va_E} {cp : Nat → Nat} {S : (Nat → Nat → Nat → Int32)} (hR : MR S L cp) (hI : CI S) {j : Nat} {p1 : Int32} (hj : j < (S 0 0 0).toNatClampNeg) {v : Int32} (hE : sp_X6_hasNeeds S j p1 = some v) (sz : Nat) (hA : ∀ q, sz ≤ q → A q) : Met l yX6_hasNeeds bw_X6_hasNeeds (rm_X6_hasNeeds) (kP D (ktys cI cG cJ cO) K0 A L ad (mK cI cO K0 ad cp ce S) sz [.ref (ad 46 j), .int p1]) (kQi D A v L ad (mK cI cO K0 ad cp ce S)) 0 0 A := by
  refine Met.ofW (cc := cX6_hasNeeds) (maxL := 2) (ret := (some .boolean)) (by decide) rfl ?_
  intro p e s m args below meth c s₁ B hml hv_
  obtain ⟨hav, hsz, hP, hD, hK, hO⟩ := hv_
  have hx := B.exec
  have hb := B.bytes
  have hr := B.returns
  have hts : ∀ w ∈ BIG, w.before args s = true := fun w h => atoms_spec (ws := bw_X6_hasNeeds) B.pre w (List.mem_cons_of_mem _ h)
  have hown : s.vm.findClass RX6 = some m.cls := findClass_of_methodNamed B.named
  have hlocks := B.notSynchronized
  subst hsz
  have hw := wk.start hP hD
  refine k_start (by rfl) hav (Nat.le_of_ble_eq_true rfl) (fun ls hl => ?_)
  have hl : lv_has ls 2 [(0, .ref (ad 46 j)), (1, .int p1)] := hl
  unfold sp_X6_hasNeeds at hE
  refine lv_aload_n hx hb dX6_hasNeeds_0 rfl (lv_at hl 0 rfl) ?_
  refine lv_iload_n hx hb dX6_hasNeeds_1 rfl (lv_at hl 1 rfl) ?_
  refine lv_aload_n hx hb dX6_hasNeeds_2 rfl (lv_at hl 0 rfl) ?_
  refine k_get (C := RX6) (T := TX6) (N := 8) (v := .int (S 6 j 0)) hx hb hts inB_X6 hown hK hw (hR.2.2.2.2.2.2.2 46 _ (by decide) (by decide) hj) mke_46 rfl 0 (by decide) (hts _ w_f_X6_27) (fun _ h9 => h9) rfl dX6_hasNeeds_3 ?_
  refine lv_iand hx hb dX6_hasNeeds_6 ?_
  obtain ⟨x_1, hx_1, hE⟩ := ob1 hE
  refine k_ci0 hw (k_rV (f := 46) (o := j) (As := [.int (p1 &&& (S 6 j 0))]) (rest := []) ⟨hx, hb, hml, hown, hts⟩ hK hO hw (ct_X6_hasAll (MR.sm (SM.rf S) hR) (SM.ci (SM.rf S) hI) (by rw [SM.c4 (SM.rf S)]; exact hj) hx_1 _ (wk.hA hw hA)) (cwV 1 hts (gB_V w_ml_X6_45 w_im_X6_hasAll w_se_X6_hasAll w_in_X6 w_co_X6_hasAll) rfl rfl rfl (by decide +kernel) ⟨Nat.le_of_ble_eq_true rfl, Nat.le_of_ble_eq_true rfl⟩) (hR.2.2.2.2.2.2.2 46 _ (by decide) (by decide) hj) mke_46 rfl rfl hl.1 rfl (Nat.le_of_ble_eq_true rfl) dX6_hasNeeds_7 ⟨(Nat.le_of_ble_eq_true rfl), (Nat.le_of_ble_eq_true rfl)⟩) (fun H locs hw => ?_)
  exact m_iret hx hb hr hlocks (k_nz (bz_X6_hasAll hx_1)) hw hE (Nat.le_of_ble_eq_true rfl) (Nat.le_of_ble_eq_true rfl) dX6_hasNeeds_10

abbrev bw_X6_last : List Cond := .code yX6_last cX6_last 3 (some .int) :: BIG
abbrev rm_X6_last : Room := { frames := 3, cells := 0, slots := 0, locals := 64 }
noncomputable def lp_X6_last_4 (S : (Nat → Nat → Nat → Int32)) (j : Nat) : Nat → Nat → Int32 → Option (Int32)
  | 0, i, v1 => some (v1)
  | k + 1, i, v1 => (sp_X6_is S j (nI i) 1).bind fun x_2 => (if x_2 = 0 then ((sp_X6_is S j (nI i) 2).bind fun x_7 => (if x_7 = 0 then (lp_X6_last_4 S j k (i + 1) v1) else (if v1 = (-1) then (lp_X6_last_4 S j k (i + 1) (nI i)) else (if v1 < 0 ∨ 12 ≤ v1.toNatClampNeg then none else (if S 25 j i < S 25 j v1.toNatClampNeg then (lp_X6_last_4 S j k (i + 1) v1) else (lp_X6_last_4 S j k (i + 1) (nI i))))))) else (if v1 = (-1) then (lp_X6_last_4 S j k (i + 1) (nI i)) else (if v1 < 0 ∨ 12 ≤ v1.toNatClampNeg then none else (if S 25 j i < S 25 j v1.toNatClampNeg then (lp_X6_last_4 S j k (i + 1) v1) else (lp_X6_last_4 S j k (i + 1) (nI i))))))
theorem lz_lp_X6_last_4 (S : (Nat → Nat → Nat → Int32)) (j : Nat) (i : Nat) (v1 : Int32) : lp_X6_last_4 S j 0 i v1 = some (v1) := rfl
theorem ls_lp_X6_last_4 (S : (Nat → Nat → Nat → Int32)) (j : Nat) (k i : Nat) (v1 : Int32) : lp_X6_last_4 S j (k + 1) i v1 = (sp_X6_is S j (nI i) 1).bind fun x_2 => (if x_2 = 0 then ((sp_X6_is S j (nI i) 2).bind fun x_7 => (if x_7 = 0 then (lp_X6_last_4 S j k (i + 1) v1) else (if v1 = (-1) then (lp_X6_last_4 S j k (i + 1) (nI i)) else (if v1 < 0 ∨ 12 ≤ v1.toNatClampNeg then none else (if S 25 j i < S 25 j v1.toNatClampNeg then (lp_X6_last_4 S j k (i + 1) v1) else (lp_X6_last_4 S j k (i + 1) (nI i))))))) else (if v1 = (-1) then (lp_X6_last_4 S j k (i + 1) (nI i)) else (if v1 < 0 ∨ 12 ≤ v1.toNatClampNeg then none else (if S 25 j i < S 25 j v1.toNatClampNeg then (lp_X6_last_4 S j k (i + 1) v1) else (lp_X6_last_4 S j k (i + 1) (nI i)))))) := rfl
noncomputable def sp_X6_last (S : (Nat → Nat → Nat → Int32)) (j : Nat) : Option (Int32) := (lp_X6_last_4 S j 12 0 (-1)).bind (fun w_1 => (some (w_1)))
set_option maxHeartbeats 1000000 in
set_option maxRecDepth 100000 in
theorem ct_X6_last {l : Launch} {D : va_G} {cI cG cJ cO : ClassId} {K0 : Nat → Nat} {A : Nat → Prop} {L : List (Nat × Nat)} {ad : Nat → Nat → Nat} {ce : Nat → Nat → va_E} {cp : Nat → Nat} {S : (Nat → Nat → Nat → Int32)} (hR : MR S L cp) (hI : CI S) {j : Nat} (hj : j < (S 0 0 0).toNatClampNeg) {v : Int32} (hE : sp_X6_last S j = some v) (sz : Nat) (hA : ∀ q, sz ≤ q → A q) : Met l yX6_last bw_X6_last (rm_X6_last) (kP D (ktys cI cG cJ cO) K0 A L ad (mK cI cO K0 ad cp ce S) sz [.ref (ad 46 j)]) (kQi D A v L ad (mK cI cO K0 ad cp ce S)) 0 0 A := by
  refine Met.ofW (cc := cX6_last) (maxL := 3) (ret := (some .int)) (by decide) rfl ?_
  intro p e s m args below meth c s₁ B hml hv_
  obtain ⟨hav, hsz, hP, hD, hK, hO⟩ := hv_
  have hx := B.exec
  have hb := B.bytes
  have hr := B.returns
  have hts : ∀ w ∈ BIG, w.before args s = true := fun w h => atoms_spec (ws := bw_X6_last) B.pre w (List.mem_cons_of_mem _ h)
  have hown : s.vm.findClass RX6 = some m.cls := findClass_of_methodNamed B.named
  have hlocks := B.notSynchronized
  subst hsz
  have hw := wk.start hP hD
  refine k_start (by rfl) hav (Nat.le_of_ble_eq_true rfl) (fun ls hl => ?_)
  have hl : lv_has ls 3 [(0, .ref (ad 46 j))] := hl
  unfold sp_X6_last at hE
  refine lv_iconst (v := (-1)) hx hb dX6_last_0 (by decide) ?_
  refine lv_istore_n (lv' := [(1, .int (-1)), (0, .ref (ad 46 j))]) hx hb dX6_last_1 rfl hl (by decide) rfl (fun ls hl => ?_)
  refine lv_iconst (v := 0) hx hb dX6_last_2 (by decide) ?_
  refine lv_istore_n (lv' := [(2, .int 0), (1, .int (-1)), (0, .ref (ad 46 j))]) hx hb dX6_last_3 rfl hl (by decide) rfl (fun ls hl => ?_)
  obtain ⟨w_1, hL_4, hE⟩ := ob1 hE
  have key_4 : ∀ (k i : Nat) (v1 : Int32) (H : Heap) (locs : List Loc) (ls : Array Slot), i + k = 12 → lp_X6_last_4 S j k i v1 = some (w_1) → wk D A (L) ad (mK cI cO K0 ad cp ce S) s.heap H locs → lv_has ls 3 [(0, .ref (ad 46 j)), (1, .int v1), (2, .int (nI i))] → W p l e (headSpec bw_X6_last (rm_X6_last)).room s m args below meth c H locs 0 0 (MQ below (kQi D A v L ad (mK cI cO K0 ad cp ce S)) args s 0 0 A) (F0 m 4 ls []) := by
    intro k
    induction k with
    | zero =>
      intro i v1 H locs ls hk hV hw hl
      have hV := (lz_lp_X6_last_4 S j i v1).symm.trans hV
      obtain rfl := (Option.some.inj hV).symm
      refine lv_iload_n hx hb dX6_last_4 rfl (lv_at hl 2 rfl) ?_
      refine lv_bipush (v := 12) hx hb dX6_last_5 (by decide) ?_
      refine lv_icmp_ge (tgt := 56) hx hb dX6_last_7 (by decide) (fun _ => ?_) (fun h => absurd (lp_o rfl hk (by decide)) h)
      refine lv_iload_n hx hb dX6_last_56 rfl (lv_at hl 1 rfl) ?_
      exact m_iret hx hb hr hlocks rfl hw hE (Nat.le_of_ble_eq_true rfl) (Nat.le_of_ble_eq_true rfl) dX6_last_57
    | succ k ih =>
      intro i v1 H locs ls hk hV hw hl
      have hV := (ls_lp_X6_last_4 S j k i v1).symm.trans hV
      have hE := hV
      refine lv_iload_n hx hb dX6_last_4 rfl (lv_at hl 2 rfl) ?_
      refine lv_bipush (v := 12) hx hb dX6_last_5 (by decide) ?_
      refine lv_icmp_ge (tgt := 56) hx hb dX6_last_7 (by decide) (fun h => absurd h (lp_i rfl hk (by decide))) (fun _ => ?_)
      refine lv_aload_n hx hb dX6_last_10 rfl (lv_at hl 0 rfl) ?_
      refine lv_iload_n hx hb dX6_last_11 rfl (lv_at hl 2 rfl) ?_
      refine lv_iconst (v := 1) hx hb dX6_last_12 (by decide) ?_
      obtain ⟨x_2, hx_2, hE⟩ := ob1 hE
      refine k_ci0 hw (k_rV (f := 46) (o := j) (As := [.int (nI i), .int 1]) (rest := []) ⟨hx, hb, hml, hown, hts⟩ hK hO hw (ct_X6_is (MR.sm (SM.rf S) hR) (SM.ci (SM.rf S) hI) (by rw [SM.c4 (SM.rf S)]; exact hj) hx_2 _ (wk.hA hw hA)) (cwV 2 hts (gB_V w_ml_X6_42 w_im_X6_is w_se_X6_is w_in_X6 w_co_X6_is) rfl rfl rfl (by decide +kernel) ⟨Nat.le_of_ble_eq_true rfl, Nat.le_of_ble_eq_true rfl⟩) (hR.2.2.2.2.2.2.2 46 _ (by decide) (by decide) hj) mke_46 rfl rfl hl.1 rfl (Nat.le_of_ble_eq_true rfl) dX6_last_13 ⟨(Nat.le_of_ble_eq_true rfl), (Nat.le_of_ble_eq_true rfl)⟩) (fun H locs hw => ?_)
      refine lv_if_ne (tgt := 28) hx hb dX6_last_16 (by decide) (fun c_3 => ?_) (fun c_3 => ?_)
      · have hE := (if_neg c_3).symm.trans hE
        refine lv_iload_n hx hb dX6_last_28 rfl (lv_at hl 1 rfl) ?_
        refine lv_iconst (v := (-1)) hx hb dX6_last_29 (by decide) ?_
        refine lv_icmp_eq (tgt := 48) hx hb dX6_last_30 (by decide) (fun c_4 => ?_) (fun c_4 => ?_)
        · have hE := (if_pos c_4).symm.trans hE
          refine lv_iload_n hx hb dX6_last_48 rfl (lv_at hl 2 rfl) ?_
          refine lv_istore_n (lv' := [(1, .int (nI i)), (0, .ref (ad 46 j)), (2, .int (nI i))]) hx hb dX6_last_49 rfl hl (by decide) rfl (fun ls hl => ?_)
          refine lv_iinc (v := (nI (i + 1))) (lv' := [(2, .int (nI (i + 1))), (1, .int (nI i)), (0, .ref (ad 46 j))]) hx hb dX6_last_50 hl (k := 2) rfl (nI_1 _) (by decide) rfl (fun ls hl => ?_)
          refine lv_goto (tgt := 4) hx hb dX6_last_53 (by decide) ?_
          exact ih (i + 1) (nI i) _ _ _ (lp_s hk) hE hw (lv_sub hl [2, 1, 0] rfl)
        · have hE := (if_neg c_4).symm.trans hE
          refine lv_aload_n hx hb dX6_last_33 rfl (lv_at hl 0 rfl) ?_
          refine k_get (C := RX6) (T := TX6) (N := 8) (v := .ref (ad 48 j)) hx hb hts inB_X6 hown hK hw (hR.2.2.2.2.2.2.2 46 _ (by decide) (by decide) hj) mke_46 rfl 3 (by decide) (hts _ w_f_X6_15) (fun _ h9 => h9) rfl dX6_last_34 ?_
          refine lv_iload_n hx hb dX6_last_37 rfl (lv_at hl 2 rfl) ?_
          refine k_aldi hx hb hK hw (hR.2.2.2.2.2.2.2 48 _ (by decide) (by decide) hj) 0 mke_48 rfl (nI_nlt (a := i) (b := 0) (Nat.zero_le _) (Nat.lt_trans (show i < 12 from (lp_l hk)) (by decide))) (nI_clamp (Nat.lt_trans (show i < 12 from (lp_l hk)) (by decide))) (show i < 12 from (lp_l hk)) (v := S 25 j i) rfl dX6_last_38 ?_
          refine lv_aload_n hx hb dX6_last_39 rfl (lv_at hl 0 rfl) ?_
          refine k_get (C := RX6) (T := TX6) (N := 8) (v := .ref (ad 48 j)) hx hb hts inB_X6 hown hK hw (hR.2.2.2.2.2.2.2 46 _ (by decide) (by decide) hj) mke_46 rfl 3 (by decide) (hts _ w_f_X6_15) (fun _ h9 => h9) rfl dX6_last_40 ?_
          refine lv_iload_n hx hb dX6_last_43 rfl (lv_at hl 1 rfl) ?_
          by_cases c_5 : v1 < 0 ∨ 12 ≤ v1.toNatClampNeg
          · exact nomatch (if_pos c_5).symm.trans hE
          have hE := (if_neg c_5).symm.trans hE
          refine k_aldi hx hb hK hw (hR.2.2.2.2.2.2.2 48 _ (by decide) (by decide) hj) 0 mke_48 rfl (fun z => c_5 (Or.inl z)) rfl (Nat.not_le.mp fun z => c_5 (Or.inr z)) (v := S 25 j v1.toNatClampNeg) rfl dX6_last_44 ?_
          refine lv_icmp_lt (tgt := 50) hx hb dX6_last_45 (by decide) (fun c_6 => ?_) (fun c_6 => ?_)
          · have hE := (if_pos c_6).symm.trans hE
            refine lv_iinc (v := (nI (i + 1))) (lv' := [(2, .int (nI (i + 1))), (0, .ref (ad 46 j)), (1, .int v1)]) hx hb dX6_last_50 hl (k := 2) rfl (nI_1 _) (by decide) rfl (fun ls hl => ?_)
            refine lv_goto (tgt := 4) hx hb dX6_last_53 (by decide) ?_
            exact ih (i + 1) v1 _ _ _ (lp_s hk) hE hw (lv_sub hl [1, 2, 0] rfl)
          · have hE := (if_neg c_6).symm.trans hE
            refine lv_iload_n hx hb dX6_last_48 rfl (lv_at hl 2 rfl) ?_
            refine lv_istore_n (lv' := [(1, .int (nI i)), (0, .ref (ad 46 j)), (2, .int (nI i))]) hx hb dX6_last_49 rfl hl (by decide) rfl (fun ls hl => ?_)
            refine lv_iinc (v := (nI (i + 1))) (lv' := [(2, .int (nI (i + 1))), (1, .int (nI i)), (0, .ref (ad 46 j))]) hx hb dX6_last_50 hl (k := 2) rfl (nI_1 _) (by decide) rfl (fun ls hl => ?_)
            refine lv_goto (tgt := 4) hx hb dX6_last_53 (by decide) ?_
            exact ih (i + 1) (nI i) _ _ _ (lp_s hk) hE hw (lv_sub hl [2, 1, 0] rfl)
      · have hE := (if_pos c_3).symm.trans hE
        refine lv_aload_n hx hb dX6_last_19 rfl (lv_at hl 0 rfl) ?_
        refine lv_iload_n hx hb dX6_last_20 rfl (lv_at hl 2 rfl) ?_
        refine lv_iconst (v := 2) hx hb dX6_last_21 (by decide) ?_
        obtain ⟨x_7, hx_7, hE⟩ := ob1 hE
        refine k_ci0 hw (k_rV (f := 46) (o := j) (As := [.int (nI i), .int 2]) (rest := []) ⟨hx, hb, hml, hown, hts⟩ hK hO hw (ct_X6_is (MR.sm (SM.rf S) hR) (SM.ci (SM.rf S) hI) (by rw [SM.c4 (SM.rf S)]; exact hj) hx_7 _ (wk.hA hw hA)) (cwV 2 hts (gB_V w_ml_X6_42 w_im_X6_is w_se_X6_is w_in_X6 w_co_X6_is) rfl rfl rfl (by decide +kernel) ⟨Nat.le_of_ble_eq_true rfl, Nat.le_of_ble_eq_true rfl⟩) (hR.2.2.2.2.2.2.2 46 _ (by decide) (by decide) hj) mke_46 rfl rfl hl.1 rfl (Nat.le_of_ble_eq_true rfl) dX6_last_22 ⟨(Nat.le_of_ble_eq_true rfl), (Nat.le_of_ble_eq_true rfl)⟩) (fun H locs hw => ?_)
        refine lv_if_eq (tgt := 50) hx hb dX6_last_25 (by decide) (fun c_8 => ?_) (fun c_8 => ?_)
        · have hE := (if_pos c_8).symm.trans hE
          refine lv_iinc (v := (nI (i + 1))) (lv' := [(2, .int (nI (i + 1))), (0, .ref (ad 46 j)), (1, .int v1)]) hx hb dX6_last_50 hl (k := 2) rfl (nI_1 _) (by decide) rfl (fun ls hl => ?_)
          refine lv_goto (tgt := 4) hx hb dX6_last_53 (by decide) ?_
          exact ih (i + 1) v1 _ _ _ (lp_s hk) hE hw (lv_sub hl [1, 2, 0] rfl)
        · have hE := (if_neg c_8).symm.trans hE
          refine lv_iload_n hx hb dX6_last_28 rfl (lv_at hl 1 rfl) ?_
          refine lv_iconst (v := (-1)) hx hb dX6_last_29 (by decide) ?_
          refine lv_icmp_eq (tgt := 48) hx hb dX6_last_30 (by decide) (fun c_9 => ?_) (fun c_9 => ?_)
          · have hE := (if_pos c_9).symm.trans hE
            refine lv_iload_n hx hb dX6_last_48 rfl (lv_at hl 2 rfl) ?_
            refine lv_istore_n (lv' := [(1, .int (nI i)), (0, .ref (ad 46 j)), (2, .int (nI i))]) hx hb dX6_last_49 rfl hl (by decide) rfl (fun ls hl => ?_)
            refine lv_iinc (v := (nI (i + 1))) (lv' := [(2, .int (nI (i + 1))), (1, .int (nI i)), (0, .ref (ad 46 j))]) hx hb dX6_last_50 hl (k := 2) rfl (nI_1 _) (by decide) rfl (fun ls hl => ?_)
            refine lv_goto (tgt := 4) hx hb dX6_last_53 (by decide) ?_
            exact ih (i + 1) (nI i) _ _ _ (lp_s hk) hE hw (lv_sub hl [2, 1, 0] rfl)
          · have hE := (if_neg c_9).symm.trans hE
            refine lv_aload_n hx hb dX6_last_33 rfl (lv_at hl 0 rfl) ?_
            refine k_get (C := RX6) (T := TX6) (N := 8) (v := .ref (ad 48 j)) hx hb hts inB_X6 hown hK hw (hR.2.2.2.2.2.2.2 46 _ (by decide) (by decide) hj) mke_46 rfl 3 (by decide) (hts _ w_f_X6_15) (fun _ h9 => h9) rfl dX6_last_34 ?_
            refine lv_iload_n hx hb dX6_last_37 rfl (lv_at hl 2 rfl) ?_
            refine k_aldi hx hb hK hw (hR.2.2.2.2.2.2.2 48 _ (by decide) (by decide) hj) 0 mke_48 rfl (nI_nlt (a := i) (b := 0) (Nat.zero_le _) (Nat.lt_trans (show i < 12 from (lp_l hk)) (by decide))) (nI_clamp (Nat.lt_trans (show i < 12 from (lp_l hk)) (by decide))) (show i < 12 from (lp_l hk)) (v := S 25 j i) rfl dX6_last_38 ?_
            refine lv_aload_n hx hb dX6_last_39 rfl (lv_at hl 0 rfl) ?_
            refine k_get (C := RX6) (T := TX6) (N := 8) (v := .ref (ad 48 j)) hx hb hts inB_X6 hown hK hw (hR.2.2.2.2.2.2.2 46 _ (by decide) (by decide) hj) mke_46 rfl 3 (by decide) (hts _ w_f_X6_15) (fun _ h9 => h9) rfl dX6_last_40 ?_
            refine lv_iload_n hx hb dX6_last_43 rfl (lv_at hl 1 rfl) ?_
            by_cases c_10 : v1 < 0 ∨ 12 ≤ v1.toNatClampNeg
            · exact nomatch (if_pos c_10).symm.trans hE
            have hE := (if_neg c_10).symm.trans hE
            refine k_aldi hx hb hK hw (hR.2.2.2.2.2.2.2 48 _ (by decide) (by decide) hj) 0 mke_48 rfl (fun z => c_10 (Or.inl z)) rfl (Nat.not_le.mp fun z => c_10 (Or.inr z)) (v := S 25 j v1.toNatClampNeg) rfl dX6_last_44 ?_
            refine lv_icmp_lt (tgt := 50) hx hb dX6_last_45 (by decide) (fun c_11 => ?_) (fun c_11 => ?_)
            · have hE := (if_pos c_11).symm.trans hE
              refine lv_iinc (v := (nI (i + 1))) (lv' := [(2, .int (nI (i + 1))), (0, .ref (ad 46 j)), (1, .int v1)]) hx hb dX6_last_50 hl (k := 2) rfl (nI_1 _) (by decide) rfl (fun ls hl => ?_)
              refine lv_goto (tgt := 4) hx hb dX6_last_53 (by decide) ?_
              exact ih (i + 1) v1 _ _ _ (lp_s hk) hE hw (lv_sub hl [1, 2, 0] rfl)
            · have hE := (if_neg c_11).symm.trans hE
              refine lv_iload_n hx hb dX6_last_48 rfl (lv_at hl 2 rfl) ?_
              refine lv_istore_n (lv' := [(1, .int (nI i)), (0, .ref (ad 46 j)), (2, .int (nI i))]) hx hb dX6_last_49 rfl hl (by decide) rfl (fun ls hl => ?_)
              refine lv_iinc (v := (nI (i + 1))) (lv' := [(2, .int (nI (i + 1))), (1, .int (nI i)), (0, .ref (ad 46 j))]) hx hb dX6_last_50 hl (k := 2) rfl (nI_1 _) (by decide) rfl (fun ls hl => ?_)
              refine lv_goto (tgt := 4) hx hb dX6_last_53 (by decide) ?_
              exact ih (i + 1) (nI i) _ _ _ (lp_s hk) hE hw (lv_sub hl [2, 1, 0] rfl)
  exact key_4 12 0 (-1) _ _ _ (Nat.zero_add _) hL_4 hw (lv_sub hl [2, 1, 0] rfl)
