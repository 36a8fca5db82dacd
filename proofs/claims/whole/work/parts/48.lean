abbrev bw_Jxa1e45_init_da8c8 : List Cond := .code yJxa1e45_init_da8c8 cJxa1e45_init_da8c8 1 none :: BIG
abbrev rm_Jxa1e45_init_da8c8 : Room := { frames := 1, cells := 0, slots := 0, locals := 12 }
set_option maxHeartbeats 1000000 in
theorem ct_Jxa1e45_init_da8c8 {l : Launch} {D : va_G} {cI cG cJ cO : ClassId} {K0 : Nat → Nat} {A : Nat → Prop} {L : List (Nat × Nat)} {ad : Nat → Nat → Nat} {ce : Nat → Nat → va_E} {f o : Nat} (sz : Nat) (hA : ∀ q, sz ≤ q → A q) : Met l yJxa1e45_init_da8c8 bw_Jxa1e45_init_da8c8 rm_Jxa1e45_init_da8c8 (kP D (ktys cI cG cJ cO) K0 A L ad ce sz [.ref (ad f o)]) (kQv D A L ad ce) 0 0 A := by
  refine Met.ofW (cc := cJxa1e45_init_da8c8) (maxL := 1) (ret := none) (by decide) rfl ?_
  intro p e s m args below meth c s₁ B hml hv
  obtain ⟨hav, hsz, hP, hD, hK, hO⟩ := hv
  have hx := B.exec
  have hb := B.bytes
  have hr := B.returns
  have hts : ∀ w ∈ BIG, w.before args s = true := fun w h => atoms_spec (ws := bw_Jxa1e45_init_da8c8) B.pre w (List.mem_cons_of_mem _ h)
  have hown : s.vm.findClass RJxa1e45 = some m.cls := findClass_of_methodNamed B.named
  have hlocks := B.notSynchronized
  have hin := (name_of_methodNamed B.named B.method).1
  subst hsz
  have hw := wk.start hP hD
  refine k_start (by rfl) hav (Nat.le_of_ble_eq_true rfl) (fun ls hl => ?_)
  have hl : lv_has ls 1 [(0, .ref (ad f o))] := hl
  refine lv_aload_n hx hb dJxa1e45_init_da8c8_0 rfl (lv_at hl 0 rfl) ?_
  refine W.objInit hx hb hown (hts _ w_oi_Jxa1e45) (hts _ w_oi_im) (hts _ w_oi_co) rfl (by rw [hml]; exact hl.1) rfl dJxa1e45_init_da8c8_1 (Nat.le_of_ble_eq_true rfl) (Nat.le_of_ble_eq_true rfl) ?_
  refine W.eq (g2 := F0 m 4 ls []) rfl ?_
  exact k_vret hx hb hr hlocks hw rfl dJxa1e45_init_da8c8_4

abbrev bw_Jxd2413_init_da8c8 : List Cond := .code yJxd2413_init_da8c8 cJxd2413_init_da8c8 1 none :: BIG
abbrev rm_Jxd2413_init_da8c8 : Room := { frames := 1, cells := 0, slots := 0, locals := 12 }
set_option maxHeartbeats 1000000 in
theorem ct_Jxd2413_init_da8c8 {l : Launch} {D : va_G} {cI cG cJ cO : ClassId} {K0 : Nat → Nat} {A : Nat → Prop} {L : List (Nat × Nat)} {ad : Nat → Nat → Nat} {ce : Nat → Nat → va_E} {f o : Nat} (sz : Nat) (hA : ∀ q, sz ≤ q → A q) : Met l yJxd2413_init_da8c8 bw_Jxd2413_init_da8c8 rm_Jxd2413_init_da8c8 (kP D (ktys cI cG cJ cO) K0 A L ad ce sz [.ref (ad f o)]) (kQv D A L ad ce) 0 0 A := by
  refine Met.ofW (cc := cJxd2413_init_da8c8) (maxL := 1) (ret := none) (by decide) rfl ?_
  intro p e s m args below meth c s₁ B hml hv
  obtain ⟨hav, hsz, hP, hD, hK, hO⟩ := hv
  have hx := B.exec
  have hb := B.bytes
  have hr := B.returns
  have hts : ∀ w ∈ BIG, w.before args s = true := fun w h => atoms_spec (ws := bw_Jxd2413_init_da8c8) B.pre w (List.mem_cons_of_mem _ h)
  have hown : s.vm.findClass RJxd2413 = some m.cls := findClass_of_methodNamed B.named
  have hlocks := B.notSynchronized
  have hin := (name_of_methodNamed B.named B.method).1
  subst hsz
  have hw := wk.start hP hD
  refine k_start (by rfl) hav (Nat.le_of_ble_eq_true rfl) (fun ls hl => ?_)
  have hl : lv_has ls 1 [(0, .ref (ad f o))] := hl
  refine lv_aload_n hx hb dJxd2413_init_da8c8_0 rfl (lv_at hl 0 rfl) ?_
  refine W.objInit hx hb hown (hts _ w_oi_Jxd2413) (hts _ w_oi_im) (hts _ w_oi_co) rfl (by rw [hml]; exact hl.1) rfl dJxd2413_init_da8c8_1 (Nat.le_of_ble_eq_true rfl) (Nat.le_of_ble_eq_true rfl) ?_
  refine W.eq (g2 := F0 m 4 ls []) rfl ?_
  exact k_vret hx hb hr hlocks hw rfl dJxd2413_init_da8c8_4

abbrev bw_Jxc12de_init_da8c8 : List Cond := .code yJxc12de_init_da8c8 cJxc12de_init_da8c8 1 none :: BIG
abbrev rm_Jxc12de_init_da8c8 : Room := { frames := 2, cells := 0, slots := 0, locals := 32 }
set_option maxHeartbeats 1000000 in
theorem ct_Jxc12de_init_da8c8 {l : Launch} {D : va_G} {cI cG cJ cO : ClassId} {K0 : Nat → Nat} {A : Nat → Prop} {L : List (Nat × Nat)} {ad : Nat → Nat → Nat} {ce : Nat → Nat → va_E} {f o : Nat} (hi : (f, o) ∈ L) (hc : ce f o = .inr (2, [.int 0, .null, .int 0])) (sz : Nat) (hA : ∀ q, sz ≤ q → A q) : Met l yJxc12de_init_da8c8 bw_Jxc12de_init_da8c8 rm_Jxc12de_init_da8c8 (kP D (ktys cI cG cJ cO) K0 A L ad ce sz [.ref (ad f o)]) (kQv D A L ad ce) 0 0 A := by
  refine Met.ofW (cc := cJxc12de_init_da8c8) (maxL := 1) (ret := none) (by decide) rfl ?_
  intro p e s m args below meth c s₁ B hml hv
  obtain ⟨hav, hsz, hP, hD, hK, hO⟩ := hv
  have hx := B.exec
  have hb := B.bytes
  have hr := B.returns
  have hts : ∀ w ∈ BIG, w.before args s = true := fun w h => atoms_spec (ws := bw_Jxc12de_init_da8c8) B.pre w (List.mem_cons_of_mem _ h)
  have hown : s.vm.findClass RJxc12de = some m.cls := findClass_of_methodNamed B.named
  have hlocks := B.notSynchronized
  have hin := (name_of_methodNamed B.named B.method).1
  subst hsz
  have hw := wk.start hP hD
  refine k_start (by rfl) hav (Nat.le_of_ble_eq_true rfl) (fun ls hl => ?_)
  have hl : lv_has ls 1 [(0, .ref (ad f o))] := hl
  refine lv_aload_n hx hb dJxc12de_init_da8c8_0 rfl (lv_at hl 0 rfl) ?_
  refine k_cv0 hw (k_rI (As := []) (rest := []) ⟨hx, hb, hml, hown, hts⟩ hK hO hw (ct_Jxa1e45_init_da8c8 (f := f) (o := o) _ (wk.hA hw hA)) (cwI 0 hts (gB_0 w_co_Jxa1e45_init_da8c8) rfl rfl rfl (hts _ w_in_Jxa1e45) (hts _ w_ml_Jxc12de_1) (hts _ w_im_Jxa1e45_init_da8c8) rfl (by decide +kernel) ⟨by decide, by decide⟩) rfl hl.1 rfl (Nat.le_of_ble_eq_true rfl) dJxc12de_init_da8c8_1 ⟨Nat.le_of_ble_eq_true rfl, Nat.le_of_ble_eq_true rfl⟩) (fun H locs hw => ?_)
  refine lv_aload_n hx hb dJxc12de_init_da8c8_4 rfl (lv_at hl 0 rfl) ?_
  refine lv_iconst (v := 0) hx hb dJxc12de_init_da8c8_5 (by decide) ?_
  refine k_put (C := RJx4a65c) (T := TJx4a65c) (N := 3) (v := .int 0) (ty := .int) hx hb hts inB_Jx4a65c tyJx4a65c tyJx4a65c_ok nmJx4a65c hown hK hw hi hc rfl 0 (by decide) (hts _ w_f_Jxc12de_7) (fun _ h9 => h9) rfl (by decide +kernel) rfl rfl (Nat.le_of_ble_eq_true rfl) rfl dJxc12de_init_da8c8_6 (fun H locs hw => ?_)
  exact k_vret hx hb hr hlocks hw (up2_same hc).symm dJxc12de_init_da8c8_9

abbrev bw_Jx4a65c_init_da8c8 : List Cond := .code yJx4a65c_init_da8c8 cJx4a65c_init_da8c8 1 none :: BIG
abbrev rm_Jx4a65c_init_da8c8 : Room := { frames := 3, cells := 0, slots := 0, locals := 52 }
set_option maxHeartbeats 1000000 in
theorem ct_Jx4a65c_init_da8c8 {l : Launch} {D : va_G} {cI cG cJ cO : ClassId} {K0 : Nat → Nat} {A : Nat → Prop} {L : List (Nat × Nat)} {ad : Nat → Nat → Nat} {ce : Nat → Nat → va_E} {f o : Nat} (hi : (f, o) ∈ L) (hc : ce f o = .inr (2, [.int 0, .null, .int 0])) (sz : Nat) (hA : ∀ q, sz ≤ q → A q) : Met l yJx4a65c_init_da8c8 bw_Jx4a65c_init_da8c8 rm_Jx4a65c_init_da8c8 (kP D (ktys cI cG cJ cO) K0 A L ad ce sz [.ref (ad f o)]) (kQv D A L ad (up2 ce f o (.inr (2, [.int 0, .ref (K0 0), .int 0])))) 0 0 A := by
  refine Met.ofW (cc := cJx4a65c_init_da8c8) (maxL := 1) (ret := none) (by decide) rfl ?_
  intro p e s m args below meth c s₁ B hml hv
  obtain ⟨hav, hsz, hP, hD, hK, hO⟩ := hv
  have hx := B.exec
  have hb := B.bytes
  have hr := B.returns
  have hts : ∀ w ∈ BIG, w.before args s = true := fun w h => atoms_spec (ws := bw_Jx4a65c_init_da8c8) B.pre w (List.mem_cons_of_mem _ h)
  have hown : s.vm.findClass RJx4a65c = some m.cls := findClass_of_methodNamed B.named
  have hlocks := B.notSynchronized
  have hin := (name_of_methodNamed B.named B.method).1
  subst hsz
  have hw := wk.start hP hD
  refine k_start (by rfl) hav (Nat.le_of_ble_eq_true rfl) (fun ls hl => ?_)
  have hl : lv_has ls 1 [(0, .ref (ad f o))] := hl
  refine lv_aload_n hx hb dJx4a65c_init_da8c8_0 rfl (lv_at hl 0 rfl) ?_
  refine k_cv0 hw (k_rI (As := []) (rest := []) ⟨hx, hb, hml, hown, hts⟩ hK hO hw (ct_Jxc12de_init_da8c8 hi hc _ (wk.hA hw hA)) (cwI 0 hts (gB_0 w_co_Jxc12de_init_da8c8) rfl rfl rfl (hts _ w_in_Jxc12de) (hts _ w_ml_Jx4a65c_1) (hts _ w_im_Jxc12de_init_da8c8) rfl (by decide +kernel) ⟨by decide, by decide⟩) rfl hl.1 rfl (Nat.le_of_ble_eq_true rfl) dJx4a65c_init_da8c8_1 ⟨Nat.le_of_ble_eq_true rfl, Nat.le_of_ble_eq_true rfl⟩) (fun H locs hw => ?_)
  refine lv_aload_n hx hb dJx4a65c_init_da8c8_4 rfl (lv_at hl 0 rfl) ?_
  refine va_gets hx hb hO.2.2.2.2.2.1.1 hw.2.2 hown (hts _ w_f_Jx4a65c_39) (fun _ h9 => h9) dJx4a65c_init_da8c8_5 ?_
  refine k_put (C := RJx4a65c) (T := TJx4a65c) (N := 3) (v := .ref (K0 0)) (ty := (.array (.object "java/lang/Object"))) hx hb hts inB_Jx4a65c tyJx4a65c tyJx4a65c_ok nmJx4a65c hown hK hw hi hc rfl 1 (by decide) (hts _ w_f_Jx4a65c_9) (fun _ h9 => h9) rfl (by decide +kernel) rfl rfl (Nat.le_of_ble_eq_true rfl) rfl dJx4a65c_init_da8c8_8 (fun H locs hw => ?_)
  exact k_vret hx hb hr hlocks hw rfl dJx4a65c_init_da8c8_11

abbrev bw_J6_init_d00df : List Cond := .code yJ6_init_d00df cJ6_init_d00df 2 none :: BIG
abbrev rm_J6_init_d00df : Room := { frames := 2, cells := 0, slots := 0, locals := 32 }
set_option maxHeartbeats 1000000 in
theorem ct_J6_init_d00df {l : Launch} {D : va_G} {cI cG cJ cO : ClassId} {K0 : Nat → Nat} {A : Nat → Prop} {L : List (Nat × Nat)} {ad : Nat → Nat → Nat} {ce : Nat → Nat → va_E} {f o : Nat} {v : Int32} (hi : (f, o) ∈ L) (hc : ce f o = .inr (0, [.int 0])) (sz : Nat) (hA : ∀ q, sz ≤ q → A q) : Met l yJ6_init_d00df bw_J6_init_d00df rm_J6_init_d00df (kP D (ktys cI cG cJ cO) K0 A L ad ce sz [.ref (ad f o), .int v]) (kQv D A L ad (up2 ce f o (.inr (0, [.int v])))) 0 0 A := by
  refine Met.ofW (cc := cJ6_init_d00df) (maxL := 2) (ret := none) (by decide) rfl ?_
  intro p e s m args below meth c s₁ B hml hv
  obtain ⟨hav, hsz, hP, hD, hK, hO⟩ := hv
  have hx := B.exec
  have hb := B.bytes
  have hr := B.returns
  have hts : ∀ w ∈ BIG, w.before args s = true := fun w h => atoms_spec (ws := bw_J6_init_d00df) B.pre w (List.mem_cons_of_mem _ h)
  have hown : s.vm.findClass RJ6 = some m.cls := findClass_of_methodNamed B.named
  have hlocks := B.notSynchronized
  have hin := (name_of_methodNamed B.named B.method).1
  subst hsz
  have hw := wk.start hP hD
  refine k_start (by rfl) hav (Nat.le_of_ble_eq_true rfl) (fun ls hl => ?_)
  have hl : lv_has ls 2 [(0, .ref (ad f o)), (1, .int v)] := hl
  refine lv_aload_n hx hb dJ6_init_d00df_0 rfl (lv_at hl 0 rfl) ?_
  refine k_cv0 hw (k_rI (As := []) (rest := []) ⟨hx, hb, hml, hown, hts⟩ hK hO hw (ct_Jxd2413_init_da8c8 (f := f) (o := o) _ (wk.hA hw hA)) (cwI 0 hts (gB_0 w_co_Jxd2413_init_da8c8) rfl rfl rfl (hts _ w_in_Jxd2413) (hts _ w_ml_J6_202) (hts _ w_im_Jxd2413_init_da8c8) rfl (by decide +kernel) ⟨by decide, by decide⟩) rfl hl.1 rfl (Nat.le_of_ble_eq_true rfl) dJ6_init_d00df_1 ⟨Nat.le_of_ble_eq_true rfl, Nat.le_of_ble_eq_true rfl⟩) (fun H locs hw => ?_)
  refine lv_aload_n hx hb dJ6_init_d00df_4 rfl (lv_at hl 0 rfl) ?_
  refine lv_iload_n hx hb dJ6_init_d00df_5 rfl (lv_at hl 1 rfl) ?_
  refine k_putF (C := RJ6) (T := TJ6) (N := 1) (v := .int v) (ty := .int) hx hb hts inB_J6 tyJ6 tyJ6_ok nmJ6 hown hK hw hi hc rfl 0 (by decide) (hts _ w_f_J6_205) (fun _ h9 => h9) rfl hin rfl (by decide +kernel) rfl rfl (Nat.le_of_ble_eq_true rfl) rfl dJ6_init_d00df_6 (fun H locs hw => ?_)
  exact k_vret hx hb hr hlocks hw rfl dJ6_init_d00df_9

abbrev bw_Jx35411_init_45d68 : List Cond := .code yJx35411_init_45d68 cJx35411_init_45d68 2 none :: BIG
abbrev rm_Jx35411_init_45d68 : Room := { frames := 1, cells := 0, slots := 0, locals := 12 }
set_option maxHeartbeats 1000000 in
theorem ct_Jx35411_init_45d68 {l : Launch} {D : va_G} {cI cG cJ cO : ClassId} {K0 : Nat → Nat} {A : Nat → Prop} {L : List (Nat × Nat)} {ad : Nat → Nat → Nat} {ce : Nat → Nat → va_E} {it lf : Nat} {mo n : Int32} {el : Value} (hi : (it, 0) ∈ L) (hc : ce it 0 = .inr (1, [.int 0, .int 0, .int 0, .null])) (hll : (lf, 0) ∈ L) (hcl : ce lf 0 = .inr (2, [.int mo, el, .int n])) (hne : lf ≠ it) (sz : Nat) (hA : ∀ q, sz ≤ q → A q) : Met l yJx35411_init_45d68 bw_Jx35411_init_45d68 rm_Jx35411_init_45d68 (kP D (ktys cI cG cJ cO) K0 A L ad ce sz [.ref (ad it 0), .ref (ad lf 0)]) (kQv D A L ad (up2 ce it 0 (.inr (1, [.int 0, .int (-1), .int mo, .ref (ad lf 0)])))) 0 0 A := by
  refine Met.ofW (cc := cJx35411_init_45d68) (maxL := 2) (ret := none) (by decide) rfl ?_
  intro p e s m args below meth c s₁ B hml hv
  obtain ⟨hav, hsz, hP, hD, hK, hO⟩ := hv
  have hx := B.exec
  have hb := B.bytes
  have hr := B.returns
  have hts : ∀ w ∈ BIG, w.before args s = true := fun w h => atoms_spec (ws := bw_Jx35411_init_45d68) B.pre w (List.mem_cons_of_mem _ h)
  have hown : s.vm.findClass RJx35411 = some m.cls := findClass_of_methodNamed B.named
  have hlocks := B.notSynchronized
  have hin := (name_of_methodNamed B.named B.method).1
  subst hsz
  have hw := wk.start hP hD
  refine k_start (by rfl) hav (Nat.le_of_ble_eq_true rfl) (fun ls hl => ?_)
  have hl : lv_has ls 2 [(0, .ref (ad it 0)), (1, .ref (ad lf 0))] := hl
  refine lv_aload_n hx hb dJx35411_init_45d68_0 rfl (lv_at hl 0 rfl) ?_
  refine lv_aload_n hx hb dJx35411_init_45d68_1 rfl (lv_at hl 1 rfl) ?_
  refine k_putF (C := RJx35411) (T := TJx35411) (N := 4) (v := .ref (ad lf 0)) (ty := (.object "java/util/ArrayList")) hx hb hts inB_Jx35411 tyJx35411 tyJx35411_ok nmJx35411 hown hK hw hi hc rfl 3 (by decide) (hts _ w_f_Jx35411_1) (fun _ h9 => h9) rfl hin rfl (by decide +kernel) rfl rfl (Nat.le_of_ble_eq_true rfl) rfl dJx35411_init_45d68_2 (fun H locs hw => ?_)
  refine lv_aload_n hx hb dJx35411_init_45d68_5 rfl (lv_at hl 0 rfl) ?_
  refine W.objInit hx hb hown (hts _ w_oi_Jx35411) (hts _ w_oi_im) (hts _ w_oi_co) rfl (by rw [hml]; exact hl.1) rfl dJx35411_init_45d68_6 (Nat.le_of_ble_eq_true rfl) (Nat.le_of_ble_eq_true rfl) ?_
  refine W.eq (g2 := F0 m 9 ls []) rfl ?_
  refine lv_aload_n hx hb dJx35411_init_45d68_9 rfl (lv_at hl 0 rfl) ?_
  refine lv_iconst (v := (-1)) hx hb dJx35411_init_45d68_10 (by decide) ?_
  refine k_put (C := RJx35411) (T := TJx35411) (N := 4) (v := .int (-1)) (ty := .int) hx hb hts inB_Jx35411 tyJx35411 tyJx35411_ok nmJx35411 hown hK hw hi up2_eq rfl 1 (by decide) (hts _ w_f_Jx35411_13) (fun _ h9 => h9) rfl (by decide +kernel) rfl rfl (Nat.le_of_ble_eq_true rfl) up2_up2 dJx35411_init_45d68_11 (fun H locs hw => ?_)
  refine lv_aload_n hx hb dJx35411_init_45d68_14 rfl (lv_at hl 0 rfl) ?_
  refine lv_aload_n hx hb dJx35411_init_45d68_15 rfl (lv_at hl 0 rfl) ?_
  refine k_get (C := RJx35411) (T := TJx35411) (N := 4) (v := .ref (ad lf 0)) hx hb hts inB_Jx35411 hown hK hw hi up2_eq rfl 3 (by decide) (hts _ w_f_Jx35411_1) (fun _ h9 => h9) rfl dJx35411_init_45d68_16 ?_
  refine k_get (C := RJx4a65c) (T := TJx4a65c) (N := 3) (v := .int mo) hx hb hts inB_Jx4a65c hown hK hw hll ((up2_n hne).trans hcl) rfl 0 (by decide) (hts _ w_f_Jx35411_17) (fun x9 h9 => u_same (hts _ w_sf_mod) x9 h9) rfl dJx35411_init_45d68_19 ?_
  refine k_put (C := RJx35411) (T := TJx35411) (N := 4) (v := .int mo) (ty := .int) hx hb hts inB_Jx35411 tyJx35411 tyJx35411_ok nmJx35411 hown hK hw hi up2_eq rfl 2 (by decide) (hts _ w_f_Jx35411_22) (fun _ h9 => h9) rfl (by decide +kernel) rfl rfl (Nat.le_of_ble_eq_true rfl) up2_up2 dJx35411_init_45d68_22 (fun H locs hw => ?_)
  exact k_vret hx hb hr hlocks hw rfl dJx35411_init_45d68_25

abbrev bw_X9_init : List Cond := .code yX9_init cX9_init 5 none :: BIG
abbrev rm_X9_init : Room := { frames := 1, cells := 0, slots := 0, locals := 12 }
set_option maxHeartbeats 1000000 in
theorem ct_X9_init {l : Launch} {D : va_G} {cI cG cJ cO : ClassId} {K0 : Nat → Nat} {A : Nat → Prop} {L : List (Nat × Nat)} {ad : Nat → Nat → Nat} {ce : Nat → Nat → va_E} {o : Nat} {v0 v1 v2 v3 : Int32} (hi : (43, o) ∈ L) (hc : ce 43 o = .inr (12, [.int 0, .int 0, .int 0, .int 0])) (sz : Nat) (hA : ∀ q, sz ≤ q → A q) : Met l yX9_init bw_X9_init rm_X9_init (kP D (ktys cI cG cJ cO) K0 A L ad ce sz [.ref (ad 43 o), .int v0, .int v1, .int v2, .int v3]) (kQv D A L ad (up2 ce 43 o (.inr (12, [.int v0, .int v1, .int v2, .int v3])))) 0 0 A := by
  refine Met.ofW (cc := cX9_init) (maxL := 5) (ret := none) (by decide) rfl ?_
  intro p e s m args below meth c s₁ B hml hv
  obtain ⟨hav, hsz, hP, hD, hK, hO⟩ := hv
  have hx := B.exec
  have hb := B.bytes
  have hr := B.returns
  have hts : ∀ w ∈ BIG, w.before args s = true := fun w h => atoms_spec (ws := bw_X9_init) B.pre w (List.mem_cons_of_mem _ h)
  have hown : s.vm.findClass RX9 = some m.cls := findClass_of_methodNamed B.named
  have hlocks := B.notSynchronized
  have hin := (name_of_methodNamed B.named B.method).1
  subst hsz
  have hw := wk.start hP hD
  refine k_start (by rfl) hav (Nat.le_of_ble_eq_true rfl) (fun ls hl => ?_)
  have hl : lv_has ls 5 [(0, .ref (ad 43 o)), (1, .int v0), (2, .int v1), (3, .int v2), (4, .int v3)] := hl
  refine lv_aload_n hx hb dX9_init_0 rfl (lv_at hl 0 rfl) ?_
  refine W.objInit hx hb hown (hts _ w_oi_X9) (hts _ w_oi_im) (hts _ w_oi_co) rfl (by rw [hml]; exact hl.1) rfl dX9_init_1 (Nat.le_of_ble_eq_true rfl) (Nat.le_of_ble_eq_true rfl) ?_
  refine W.eq (g2 := F0 m 4 ls []) rfl ?_
  refine lv_aload_n hx hb dX9_init_4 rfl (lv_at hl 0 rfl) ?_
  refine lv_iload_n hx hb dX9_init_5 rfl (lv_at hl 1 rfl) ?_
  refine k_putF (C := RX9) (T := TX9) (N := 4) (v := .int v0) (ty := .int) hx hb hts inB_X9 tyX9 tyX9_ok nmX9 hown hK hw hi hc rfl 0 (by decide) (hts _ w_f_X9_7) (fun _ h9 => h9) rfl hin rfl (by decide +kernel) rfl rfl (Nat.le_of_ble_eq_true rfl) rfl dX9_init_6 (fun H locs hw => ?_)
  refine lv_aload_n hx hb dX9_init_9 rfl (lv_at hl 0 rfl) ?_
  refine lv_iload_n hx hb dX9_init_10 rfl (lv_at hl 2 rfl) ?_
  refine k_putF (C := RX9) (T := TX9) (N := 4) (v := .int v1) (ty := .int) hx hb hts inB_X9 tyX9 tyX9_ok nmX9 hown hK hw hi up2_eq rfl 1 (by decide) (hts _ w_f_X9_13) (fun _ h9 => h9) rfl hin rfl (by decide +kernel) rfl rfl (Nat.le_of_ble_eq_true rfl) up2_up2 dX9_init_11 (fun H locs hw => ?_)
  refine lv_aload_n hx hb dX9_init_14 rfl (lv_at hl 0 rfl) ?_
  refine lv_iload_n hx hb dX9_init_15 rfl (lv_at hl 3 rfl) ?_
  refine k_putF (C := RX9) (T := TX9) (N := 4) (v := .int v2) (ty := .int) hx hb hts inB_X9 tyX9 tyX9_ok nmX9 hown hK hw hi up2_eq rfl 2 (by decide) (hts _ w_f_X9_16) (fun _ h9 => h9) rfl hin rfl (by decide +kernel) rfl rfl (Nat.le_of_ble_eq_true rfl) up2_up2 dX9_init_16 (fun H locs hw => ?_)
  refine lv_aload_n hx hb dX9_init_19 rfl (lv_at hl 0 rfl) ?_
  refine lv_iload hx hb dX9_init_20 (lv_at hl 4 rfl) ?_
  refine k_putF (C := RX9) (T := TX9) (N := 4) (v := .int v3) (ty := .int) hx hb hts inB_X9 tyX9 tyX9_ok nmX9 hown hK hw hi up2_eq rfl 3 (by decide) (hts _ w_f_X9_19) (fun _ h9 => h9) rfl hin rfl (by decide +kernel) rfl rfl (Nat.le_of_ble_eq_true rfl) up2_up2 dX9_init_22 (fun H locs hw => ?_)
  exact k_vret hx hb hr hlocks hw rfl dX9_init_25

abbrev bw_X7_init : List Cond := .code yX7_init cX7_init 4 none :: BIG
abbrev rm_X7_init : Room := { frames := 1, cells := 0, slots := 0, locals := 12 }
set_option maxHeartbeats 1000000 in
theorem ct_X7_init {l : Launch} {D : va_G} {cI cG cJ cO : ClassId} {K0 : Nat → Nat} {A : Nat → Prop} {L : List (Nat × Nat)} {ad : Nat → Nat → Nat} {ce : Nat → Nat → va_E} {o : Nat} {v0 v1 v2 : Int32} (hi : (44, o) ∈ L) (hc : ce 44 o = .inr (10, [.int 0, .int 0, .int 0, .int 0])) (sz : Nat) (hA : ∀ q, sz ≤ q → A q) : Met l yX7_init bw_X7_init rm_X7_init (kP D (ktys cI cG cJ cO) K0 A L ad ce sz [.ref (ad 44 o), .int v0, .int v1, .int v2]) (kQv D A L ad (up2 ce 44 o (.inr (10, [.int v0, .int v1, .int v2, .int 0])))) 0 0 A := by
  refine Met.ofW (cc := cX7_init) (maxL := 4) (ret := none) (by decide) rfl ?_
  intro p e s m args below meth c s₁ B hml hv
  obtain ⟨hav, hsz, hP, hD, hK, hO⟩ := hv
  have hx := B.exec
  have hb := B.bytes
  have hr := B.returns
  have hts : ∀ w ∈ BIG, w.before args s = true := fun w h => atoms_spec (ws := bw_X7_init) B.pre w (List.mem_cons_of_mem _ h)
  have hown : s.vm.findClass RX7 = some m.cls := findClass_of_methodNamed B.named
  have hlocks := B.notSynchronized
  have hin := (name_of_methodNamed B.named B.method).1
  subst hsz
  have hw := wk.start hP hD
  refine k_start (by rfl) hav (Nat.le_of_ble_eq_true rfl) (fun ls hl => ?_)
  have hl : lv_has ls 4 [(0, .ref (ad 44 o)), (1, .int v0), (2, .int v1), (3, .int v2)] := hl
  refine lv_aload_n hx hb dX7_init_0 rfl (lv_at hl 0 rfl) ?_
  refine W.objInit hx hb hown (hts _ w_oi_X7) (hts _ w_oi_im) (hts _ w_oi_co) rfl (by rw [hml]; exact hl.1) rfl dX7_init_1 (Nat.le_of_ble_eq_true rfl) (Nat.le_of_ble_eq_true rfl) ?_
  refine W.eq (g2 := F0 m 4 ls []) rfl ?_
  refine lv_aload_n hx hb dX7_init_4 rfl (lv_at hl 0 rfl) ?_
  refine lv_iload_n hx hb dX7_init_5 rfl (lv_at hl 1 rfl) ?_
  refine k_putF (C := RX7) (T := TX7) (N := 4) (v := .int v0) (ty := .int) hx hb hts inB_X7 tyX7 tyX7_ok nmX7 hown hK hw hi hc rfl 0 (by decide) (hts _ w_f_X7_7) (fun _ h9 => h9) rfl hin rfl (by decide +kernel) rfl rfl (Nat.le_of_ble_eq_true rfl) rfl dX7_init_6 (fun H locs hw => ?_)
  refine lv_aload_n hx hb dX7_init_9 rfl (lv_at hl 0 rfl) ?_
  refine lv_iload_n hx hb dX7_init_10 rfl (lv_at hl 2 rfl) ?_
  refine k_putF (C := RX7) (T := TX7) (N := 4) (v := .int v1) (ty := .int) hx hb hts inB_X7 tyX7 tyX7_ok nmX7 hown hK hw hi up2_eq rfl 1 (by decide) (hts _ w_f_X7_13) (fun _ h9 => h9) rfl hin rfl (by decide +kernel) rfl rfl (Nat.le_of_ble_eq_true rfl) up2_up2 dX7_init_11 (fun H locs hw => ?_)
  refine lv_aload_n hx hb dX7_init_14 rfl (lv_at hl 0 rfl) ?_
  refine lv_iload_n hx hb dX7_init_15 rfl (lv_at hl 3 rfl) ?_
  refine k_put (C := RX7) (T := TX7) (N := 4) (v := .int v2) (ty := .int) hx hb hts inB_X7 tyX7 tyX7_ok nmX7 hown hK hw hi up2_eq rfl 2 (by decide) (hts _ w_f_X7_16) (fun _ h9 => h9) rfl (by decide +kernel) rfl rfl (Nat.le_of_ble_eq_true rfl) up2_up2 dX7_init_16 (fun H locs hw => ?_)
  exact k_vret hx hb hr hlocks hw rfl dX7_init_19

abbrev bw_X8_init : List Cond := .code yX8_init cX8_init 4 none :: BIG
abbrev rm_X8_init : Room := { frames := 1, cells := 0, slots := 0, locals := 12 }
set_option maxHeartbeats 1000000 in
theorem ct_X8_init {l : Launch} {D : va_G} {cI cG cJ cO : ClassId} {K0 : Nat → Nat} {A : Nat → Prop} {L : List (Nat × Nat)} {ad : Nat → Nat → Nat} {ce : Nat → Nat → va_E} {o : Nat} {v0 v1 v2 : Int32} (hi : (45, o) ∈ L) (hc : ce 45 o = .inr (11, [.int 0, .int 0, .int 0])) (sz : Nat) (hA : ∀ q, sz ≤ q → A q) : Met l yX8_init bw_X8_init rm_X8_init (kP D (ktys cI cG cJ cO) K0 A L ad ce sz [.ref (ad 45 o), .int v0, .int v1, .int v2]) (kQv D A L ad (up2 ce 45 o (.inr (11, [.int v0, .int v1, .int v2])))) 0 0 A := by
  refine Met.ofW (cc := cX8_init) (maxL := 4) (ret := none) (by decide) rfl ?_
  intro p e s m args below meth c s₁ B hml hv
  obtain ⟨hav, hsz, hP, hD, hK, hO⟩ := hv
  have hx := B.exec
  have hb := B.bytes
  have hr := B.returns
  have hts : ∀ w ∈ BIG, w.before args s = true := fun w h => atoms_spec (ws := bw_X8_init) B.pre w (List.mem_cons_of_mem _ h)
  have hown : s.vm.findClass RX8 = some m.cls := findClass_of_methodNamed B.named
  have hlocks := B.notSynchronized
  have hin := (name_of_methodNamed B.named B.method).1
  subst hsz
  have hw := wk.start hP hD
  refine k_start (by rfl) hav (Nat.le_of_ble_eq_true rfl) (fun ls hl => ?_)
  have hl : lv_has ls 4 [(0, .ref (ad 45 o)), (1, .int v0), (2, .int v1), (3, .int v2)] := hl
  refine lv_aload_n hx hb dX8_init_0 rfl (lv_at hl 0 rfl) ?_
  refine W.objInit hx hb hown (hts _ w_oi_X8) (hts _ w_oi_im) (hts _ w_oi_co) rfl (by rw [hml]; exact hl.1) rfl dX8_init_1 (Nat.le_of_ble_eq_true rfl) (Nat.le_of_ble_eq_true rfl) ?_
  refine W.eq (g2 := F0 m 4 ls []) rfl ?_
  refine lv_aload_n hx hb dX8_init_4 rfl (lv_at hl 0 rfl) ?_
  refine lv_iload_n hx hb dX8_init_5 rfl (lv_at hl 1 rfl) ?_
  refine k_putF (C := RX8) (T := TX8) (N := 3) (v := .int v0) (ty := .int) hx hb hts inB_X8 tyX8 tyX8_ok nmX8 hown hK hw hi hc rfl 0 (by decide) (hts _ w_f_X8_7) (fun _ h9 => h9) rfl hin rfl (by decide +kernel) rfl rfl (Nat.le_of_ble_eq_true rfl) rfl dX8_init_6 (fun H locs hw => ?_)
  refine lv_aload_n hx hb dX8_init_9 rfl (lv_at hl 0 rfl) ?_
  refine lv_iload_n hx hb dX8_init_10 rfl (lv_at hl 2 rfl) ?_
  refine k_putF (C := RX8) (T := TX8) (N := 3) (v := .int v1) (ty := .int) hx hb hts inB_X8 tyX8 tyX8_ok nmX8 hown hK hw hi up2_eq rfl 1 (by decide) (hts _ w_f_X8_13) (fun _ h9 => h9) rfl hin rfl (by decide +kernel) rfl rfl (Nat.le_of_ble_eq_true rfl) up2_up2 dX8_init_11 (fun H locs hw => ?_)
  refine lv_aload_n hx hb dX8_init_14 rfl (lv_at hl 0 rfl) ?_
  refine lv_iload_n hx hb dX8_init_15 rfl (lv_at hl 3 rfl) ?_
  refine k_putF (C := RX8) (T := TX8) (N := 3) (v := .int v2) (ty := .int) hx hb hts inB_X8 tyX8 tyX8_ok nmX8 hown hK hw hi up2_eq rfl 2 (by decide) (hts _ w_f_X8_16) (fun _ h9 => h9) rfl hin rfl (by decide +kernel) rfl rfl (Nat.le_of_ble_eq_true rfl) up2_up2 dX8_init_16 (fun H locs hw => ?_)
  exact k_vret hx hb hr hlocks hw rfl dX8_init_19
