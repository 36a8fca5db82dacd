abbrev bw_J3_checkIndex_8e157 : List Cond := .code yJ3_checkIndex_8e157 cJ3_checkIndex_8e157 3 (some .int) :: BIG
abbrev rm_J3_checkIndex_8e157 : Room := { frames := 0, cells := 0, slots := 0, locals := 0 }
noncomputable def sp_J3_checkIndex_8e157 (p1 : Int32) (p2 : Int32) : Int32 := p1
set_option maxHeartbeats 1000000 in
set_option maxRecDepth 100000 in
theorem ct_J3_checkIndex_8e157 {l : Launch} {D : va_G} {cI cG cJ cO : ClassId} {K0 : Nat → Nat} {A : Nat → Prop} {L : List (Nat × Nat)} {ad : Nat → Nat → Nat} {ce : Nat → Nat → va_E} (p1 : Int32) (p2 : Int32) (h0 : ¬ p1 < 0) (h1 : p1 < p2) (sz : Nat) (hA : ∀ q, sz ≤ q → A q) : Met l yJ3_checkIndex_8e157 bw_J3_checkIndex_8e157 rm_J3_checkIndex_8e157 (kP D (ktys cI cG cJ cO) K0 A L ad ce sz [.int p1, .int p2, .null]) (kQi D A (sp_J3_checkIndex_8e157 p1 p2) L ad ce) 0 0 A := by
  refine Met.ofW (cc := cJ3_checkIndex_8e157) (maxL := 3) (ret := (some .int)) (by decide) rfl ?_
  intro p e s m args below meth c s₁ B hml hv
  obtain ⟨hav, hsz, hP, hD, hK, hO⟩ := hv
  have hx := B.exec
  have hb := B.bytes
  have hr := B.returns
  have hts : ∀ w ∈ BIG, w.before args s = true := fun w h => atoms_spec (ws := bw_J3_checkIndex_8e157) B.pre w (List.mem_cons_of_mem _ h)
  have hown : s.vm.findClass RJ3 = some m.cls := findClass_of_methodNamed B.named
  have hlocks := B.notSynchronized
  subst hsz
  have hw := wk.start hP hD
  refine k_start (by rfl) hav (Nat.le_of_ble_eq_true rfl) (fun ls hl => ?_)
  have hl : lv_has ls 3 [(0, .int p1), (1, .int p2), (2, .null)] := hl
  have hE : sp_J3_checkIndex_8e157 p1 p2 = p1 := by unfold sp_J3_checkIndex_8e157; rfl
  refine lv_iload_n hx hb dJ3_checkIndex_8e157_0 rfl (lv_at hl 0 rfl) ?_
  refine lv_if_lt (tgt := 9) hx hb dJ3_checkIndex_8e157_1 (by decide) (fun h => absurd h h0) (fun _ => ?_)
  refine lv_iload_n hx hb dJ3_checkIndex_8e157_4 rfl (lv_at hl 0 rfl) ?_
  refine lv_iload_n hx hb dJ3_checkIndex_8e157_5 rfl (lv_at hl 1 rfl) ?_
  refine lv_icmp_lt (tgt := 16) hx hb dJ3_checkIndex_8e157_6 (by decide) (fun _ => ?_) (fun h => absurd h1 h)
  refine lv_iload_n hx hb dJ3_checkIndex_8e157_16 rfl (lv_at hl 0 rfl) ?_
  exact k_iret hx hb hr hlocks rfl hw hE rfl dJ3_checkIndex_8e157_17

abbrev bw_J15_checkIndex_7cf53 : List Cond := .code yJ15_checkIndex_7cf53 cJ15_checkIndex_7cf53 2 (some .int) :: BIG
abbrev rm_J15_checkIndex_7cf53 : Room := { frames := 1, cells := 0, slots := 0, locals := 22 }
noncomputable def sp_J15_checkIndex_7cf53 (p1 : Int32) (p2 : Int32) : Int32 := sp_J3_checkIndex_8e157 p1 p2
set_option maxHeartbeats 1000000 in
set_option maxRecDepth 100000 in
theorem ct_J15_checkIndex_7cf53 {l : Launch} {D : va_G} {cI cG cJ cO : ClassId} {K0 : Nat → Nat} {A : Nat → Prop} {L : List (Nat × Nat)} {ad : Nat → Nat → Nat} {ce : Nat → Nat → va_E} (p1 : Int32) (p2 : Int32) (h0 : ¬ p1 < 0) (h1 : p1 < p2) (sz : Nat) (hA : ∀ q, sz ≤ q → A q) : Met l yJ15_checkIndex_7cf53 bw_J15_checkIndex_7cf53 rm_J15_checkIndex_7cf53 (kP D (ktys cI cG cJ cO) K0 A L ad ce sz [.int p1, .int p2]) (kQi D A (sp_J15_checkIndex_7cf53 p1 p2) L ad ce) 0 0 A := by
  refine Met.ofW (cc := cJ15_checkIndex_7cf53) (maxL := 2) (ret := (some .int)) (by decide) rfl ?_
  intro p e s m args below meth c s₁ B hml hv
  obtain ⟨hav, hsz, hP, hD, hK, hO⟩ := hv
  have hx := B.exec
  have hb := B.bytes
  have hr := B.returns
  have hts : ∀ w ∈ BIG, w.before args s = true := fun w h => atoms_spec (ws := bw_J15_checkIndex_7cf53) B.pre w (List.mem_cons_of_mem _ h)
  have hown : s.vm.findClass RJ15 = some m.cls := findClass_of_methodNamed B.named
  have hlocks := B.notSynchronized
  subst hsz
  have hw := wk.start hP hD
  refine k_start (by rfl) hav (Nat.le_of_ble_eq_true rfl) (fun ls hl => ?_)
  have hl : lv_has ls 2 [(0, .int p1), (1, .int p2)] := hl
  have hE : sp_J15_checkIndex_7cf53 p1 p2 = sp_J3_checkIndex_8e157 p1 p2 := by unfold sp_J15_checkIndex_7cf53; rfl
  refine lv_iload_n hx hb dJ15_checkIndex_7cf53_0 rfl (lv_at hl 0 rfl) ?_
  refine lv_iload_n hx hb dJ15_checkIndex_7cf53_1 rfl (lv_at hl 1 rfl) ?_
  refine lv_null hx hb dJ15_checkIndex_7cf53_2 ?_
  refine k_ci0 hw (k_rS (As := [.int p1, .int p2, .null]) (rest := []) ⟨hx, hb, hml, hown, hts⟩ hK hO hw (ct_J3_checkIndex_8e157 p1 p2 h0 h1 _ (wk.hA hw hA)) (va_cwS 3 hts (gB_S w_ml_J15_105 w_st_J3_checkIndex_8e157 w_in_J3 w_co_J3_checkIndex_8e157) rfl rfl rfl (by decide +kernel) ⟨by decide, by decide⟩) rfl hl.1 rfl (Nat.le_of_ble_eq_true rfl) dJ15_checkIndex_7cf53_3 ⟨Nat.le_of_ble_eq_true rfl, Nat.le_of_ble_eq_true rfl⟩) (fun H locs hw => ?_)
  exact k_iret hx hb hr hlocks rfl hw hE rfl dJ15_checkIndex_7cf53_6

abbrev bw_Jx4a65c_size_8abf5 : List Cond := .code yJx4a65c_size_8abf5 cJx4a65c_size_8abf5 1 (some .int) :: BIG
abbrev rm_Jx4a65c_size_8abf5 : Room := { frames := 0, cells := 0, slots := 0, locals := 0 }
noncomputable def sp_Jx4a65c_size_8abf5 (n : Int32) : Int32 := n
set_option maxHeartbeats 1000000 in
set_option maxRecDepth 100000 in
theorem ct_Jx4a65c_size_8abf5 {l : Launch} {D : va_G} {cI cG cJ cO : ClassId} {K0 : Nat → Nat} {A : Nat → Prop} {L : List (Nat × Nat)} {ad : Nat → Nat → Nat} {ce : Nat → Nat → va_E} {lf : Nat} {mo n : Int32} {el : Value} (hll : (lf, 0) ∈ L) (hc : ce lf 0 = .inr (2, [.int mo, el, .int n])) (sz : Nat) (hA : ∀ q, sz ≤ q → A q) : Met l yJx4a65c_size_8abf5 bw_Jx4a65c_size_8abf5 rm_Jx4a65c_size_8abf5 (kP D (ktys cI cG cJ cO) K0 A L ad ce sz [.ref (ad lf 0)]) (kQi D A (sp_Jx4a65c_size_8abf5 n) L ad ce) 0 0 A := by
  refine Met.ofW (cc := cJx4a65c_size_8abf5) (maxL := 1) (ret := (some .int)) (by decide) rfl ?_
  intro p e s m args below meth c s₁ B hml hv
  obtain ⟨hav, hsz, hP, hD, hK, hO⟩ := hv
  have hx := B.exec
  have hb := B.bytes
  have hr := B.returns
  have hts : ∀ w ∈ BIG, w.before args s = true := fun w h => atoms_spec (ws := bw_Jx4a65c_size_8abf5) B.pre w (List.mem_cons_of_mem _ h)
  have hown : s.vm.findClass RJx4a65c = some m.cls := findClass_of_methodNamed B.named
  have hlocks := B.notSynchronized
  subst hsz
  have hw := wk.start hP hD
  refine k_start (by rfl) hav (Nat.le_of_ble_eq_true rfl) (fun ls hl => ?_)
  have hl : lv_has ls 1 [(0, .ref (ad lf 0))] := hl
  have hE : sp_Jx4a65c_size_8abf5 n = n := by unfold sp_Jx4a65c_size_8abf5; rfl
  refine lv_aload_n hx hb dJx4a65c_size_8abf5_0 rfl (lv_at hl 0 rfl) ?_
  refine k_get (C := RJx4a65c) (T := TJx4a65c) (N := 3) (v := .int n) hx hb hts inB_Jx4a65c hown hK hw hll hc rfl 2 (by decide) (hts _ w_f_Jx4a65c_48) (fun _ h9 => h9) rfl dJx4a65c_size_8abf5_1 ?_
  exact k_iret hx hb hr hlocks rfl hw hE rfl dJx4a65c_size_8abf5_4

abbrev bw_Jx4a65c_elementData_915e3 : List Cond := .code yJx4a65c_elementData_915e3 cJx4a65c_elementData_915e3 2 (some (.object "java/lang/Object")) :: BIG
abbrev rm_Jx4a65c_elementData_915e3 : Room := { frames := 0, cells := 0, slots := 0, locals := 0 }
noncomputable def sp_Jx4a65c_elementData_915e3 (a : Nat) : Nat := a
set_option maxHeartbeats 1000000 in
set_option maxRecDepth 100000 in
theorem ct_Jx4a65c_elementData_915e3 {l : Launch} {D : va_G} {cI cG cJ cO : ClassId} {K0 : Nat → Nat} {A : Nat → Prop} {L : List (Nat × Nat)} {ad : Nat → Nat → Nat} {ce : Nat → Nat → va_E} {lf bf cap : Nat} {mo n : Int32} {g : Nat → Option Nat} (hll : (lf, 0) ∈ L) (hc : ce lf 0 = .inr (2, [.int mo, .ref (ad bf 0), .int n])) (hlb : (bf, 0) ∈ L) (hcb : ce bf 0 = .inl (cO, cap, .inr (.inr (.inr (.inr g))))) (p1 : Int32) {a : Nat} (hin : vp_in p1 cap) (ha : g p1.toNatClampNeg = some a) (sz : Nat) (hA : ∀ q, sz ≤ q → A q) : Met l yJx4a65c_elementData_915e3 bw_Jx4a65c_elementData_915e3 rm_Jx4a65c_elementData_915e3 (kP D (ktys cI cG cJ cO) K0 A L ad ce sz [.ref (ad lf 0), .int p1]) (kQr D A a L ad ce) 0 0 A := by
  refine Met.ofW (cc := cJx4a65c_elementData_915e3) (maxL := 2) (ret := (some (.object "java/lang/Object"))) (by decide) rfl ?_
  intro p e s m args below meth c s₁ B hml hv
  obtain ⟨hav, hsz, hP, hD, hK, hO⟩ := hv
  have hx := B.exec
  have hb := B.bytes
  have hr := B.returns
  have hts : ∀ w ∈ BIG, w.before args s = true := fun w h => atoms_spec (ws := bw_Jx4a65c_elementData_915e3) B.pre w (List.mem_cons_of_mem _ h)
  have hown : s.vm.findClass RJx4a65c = some m.cls := findClass_of_methodNamed B.named
  have hlocks := B.notSynchronized
  subst hsz
  have hw := wk.start hP hD
  refine k_start (by rfl) hav (Nat.le_of_ble_eq_true rfl) (fun ls hl => ?_)
  have hl : lv_has ls 2 [(0, .ref (ad lf 0)), (1, .int p1)] := hl
  have hE : sp_Jx4a65c_elementData_915e3 a = a := by unfold sp_Jx4a65c_elementData_915e3; rfl
  refine lv_aload_n hx hb dJx4a65c_elementData_915e3_0 rfl (lv_at hl 0 rfl) ?_
  refine k_get (C := RJx4a65c) (T := TJx4a65c) (N := 3) (v := .ref (ad bf 0)) hx hb hts inB_Jx4a65c hown hK hw hll hc rfl 1 (by decide) (hts _ w_f_Jx4a65c_9) (fun _ h9 => h9) rfl dJx4a65c_elementData_915e3_1 ?_
  refine lv_iload_n hx hb dJx4a65c_elementData_915e3_4 rfl (lv_at hl 1 rfl) ?_
  refine k_aldq hx hb hK hw hlb 3 hcb rfl hin (a := a) ha dJx4a65c_elementData_915e3_5 ?_
  exact k_rret hx hb hr (Or.inl ⟨_, rfl⟩) hlocks hw rfl rfl dJx4a65c_elementData_915e3_6

abbrev bw_Jx4a65c_get_915e3 : List Cond := .code yJx4a65c_get_915e3 cJx4a65c_get_915e3 2 (some (.object "java/lang/Object")) :: BIG
abbrev rm_Jx4a65c_get_915e3 : Room := { frames := 2, cells := 0, slots := 0, locals := 43 }
noncomputable def sp_Jx4a65c_get_915e3 (a : Nat) : Nat := a
set_option maxHeartbeats 1000000 in
set_option maxRecDepth 100000 in
theorem ct_Jx4a65c_get_915e3 {l : Launch} {D : va_G} {cI cG cJ cO : ClassId} {K0 : Nat → Nat} {A : Nat → Prop} {L : List (Nat × Nat)} {ad : Nat → Nat → Nat} {ce : Nat → Nat → va_E} {lf bf cap : Nat} {mo n : Int32} {g : Nat → Option Nat} (hll : (lf, 0) ∈ L) (hc : ce lf 0 = .inr (2, [.int mo, .ref (ad bf 0), .int n])) (hlb : (bf, 0) ∈ L) (hcb : ce bf 0 = .inl (cO, cap, .inr (.inr (.inr (.inr g))))) (p1 : Int32) {a : Nat} (hin : vp_in p1 cap) (ha : g p1.toNatClampNeg = some a) (h0 : ¬ p1 < 0) (h1 : p1 < n) (sz : Nat) (hA : ∀ q, sz ≤ q → A q) : Met l yJx4a65c_get_915e3 bw_Jx4a65c_get_915e3 rm_Jx4a65c_get_915e3 (kP D (ktys cI cG cJ cO) K0 A L ad ce sz [.ref (ad lf 0), .int p1]) (kQr D A a L ad ce) 0 0 A := by
  refine Met.ofW (cc := cJx4a65c_get_915e3) (maxL := 2) (ret := (some (.object "java/lang/Object"))) (by decide) rfl ?_
  intro p e s m args below meth c s₁ B hml hv
  obtain ⟨hav, hsz, hP, hD, hK, hO⟩ := hv
  have hx := B.exec
  have hb := B.bytes
  have hr := B.returns
  have hts : ∀ w ∈ BIG, w.before args s = true := fun w h => atoms_spec (ws := bw_Jx4a65c_get_915e3) B.pre w (List.mem_cons_of_mem _ h)
  have hown : s.vm.findClass RJx4a65c = some m.cls := findClass_of_methodNamed B.named
  have hlocks := B.notSynchronized
  subst hsz
  have hw := wk.start hP hD
  refine k_start (by rfl) hav (Nat.le_of_ble_eq_true rfl) (fun ls hl => ?_)
  have hl : lv_has ls 2 [(0, .ref (ad lf 0)), (1, .int p1)] := hl
  have hE : sp_Jx4a65c_get_915e3 a = a := by unfold sp_Jx4a65c_get_915e3; rfl
  refine lv_iload_n hx hb dJx4a65c_get_915e3_0 rfl (lv_at hl 1 rfl) ?_
  refine lv_aload_n hx hb dJx4a65c_get_915e3_1 rfl (lv_at hl 0 rfl) ?_
  refine k_get (C := RJx4a65c) (T := TJx4a65c) (N := 3) (v := .int n) hx hb hts inB_Jx4a65c hown hK hw hll hc rfl 2 (by decide) (hts _ w_f_Jx4a65c_48) (fun _ h9 => h9) rfl dJx4a65c_get_915e3_2 ?_
  refine k_ci0 hw (k_rS (As := [.int p1, .int n]) (rest := []) ⟨hx, hb, hml, hown, hts⟩ hK hO hw (ct_J15_checkIndex_7cf53 p1 n h0 h1 _ (wk.hA hw hA)) (va_cwS 2 hts (gB_S w_ml_Jx4a65c_118 w_st_J15_checkIndex_7cf53 w_in_J15 w_co_J15_checkIndex_7cf53) rfl rfl rfl (by decide +kernel) ⟨by decide, by decide⟩) rfl hl.1 rfl (Nat.le_of_ble_eq_true rfl) dJx4a65c_get_915e3_5 ⟨Nat.le_of_ble_eq_true rfl, Nat.le_of_ble_eq_true rfl⟩) (fun H locs hw => ?_)
  refine lv_pop hx hb dJx4a65c_get_915e3_8 rfl ?_
  refine lv_aload_n hx hb dJx4a65c_get_915e3_9 rfl (lv_at hl 0 rfl) ?_
  refine lv_iload_n hx hb dJx4a65c_get_915e3_10 rfl (lv_at hl 1 rfl) ?_
  refine k_cr0 hw (k_rV (As := [.int p1]) (rest := []) ⟨hx, hb, hml, hown, hts⟩ hK hO hw (ct_Jx4a65c_elementData_915e3 hll hc hlb hcb p1 hin ha _ (wk.hA hw hA)) (cwV 1 hts (gB_V w_ml_Jx4a65c_123 w_im_Jx4a65c_elementData_915e3 w_se_Jx4a65c_elementData_915e3 w_in_Jx4a65c w_co_Jx4a65c_elementData_915e3) rfl rfl rfl (by decide +kernel) ⟨by decide, by decide⟩) hll hc rfl rfl hl.1 rfl (Nat.le_of_ble_eq_true rfl) dJx4a65c_get_915e3_11 ⟨Nat.le_of_ble_eq_true rfl, Nat.le_of_ble_eq_true rfl⟩) (fun H locs hw => ?_)
  exact k_rret hx hb hr (Or.inl ⟨_, rfl⟩) hlocks hw rfl rfl dJx4a65c_get_915e3_14

abbrev bw_Jx35411_hasNext_aae02 : List Cond := .code yJx35411_hasNext_aae02 cJx35411_hasNext_aae02 1 (some .boolean) :: BIG
abbrev rm_Jx35411_hasNext_aae02 : Room := { frames := 0, cells := 0, slots := 0, locals := 0 }
noncomputable def sp_Jx35411_hasNext_aae02 (i : Nat) (n : Int32) : Int32 := if nI i = n then (0) else (1)
set_option maxHeartbeats 1000000 in
set_option maxRecDepth 100000 in
theorem ct_Jx35411_hasNext_aae02 {l : Launch} {D : va_G} {cI cG cJ cO : ClassId} {K0 : Nat → Nat} {A : Nat → Prop} {L : List (Nat × Nat)} {ad : Nat → Nat → Nat} {ce : Nat → Nat → va_E} {lf : Nat} {mo n : Int32} {el : Value} (hll : (lf, 0) ∈ L) (hc : ce lf 0 = .inr (2, [.int mo, el, .int n])) {it i : Nat} (hi : (it, 0) ∈ L) (hci : ce it 0 = .inr (1, [.int (nI i), .int (itl i), .int mo, .ref (ad lf 0)])) (sz : Nat) (hA : ∀ q, sz ≤ q → A q) : Met l yJx35411_hasNext_aae02 bw_Jx35411_hasNext_aae02 rm_Jx35411_hasNext_aae02 (kP D (ktys cI cG cJ cO) K0 A L ad ce sz [.ref (ad it 0)]) (kQi D A (sp_Jx35411_hasNext_aae02 i n) L ad ce) 0 0 A := by
  refine Met.ofW (cc := cJx35411_hasNext_aae02) (maxL := 1) (ret := (some .boolean)) (by decide) rfl ?_
  intro p e s m args below meth c s₁ B hml hv
  obtain ⟨hav, hsz, hP, hD, hK, hO⟩ := hv
  have hx := B.exec
  have hb := B.bytes
  have hr := B.returns
  have hts : ∀ w ∈ BIG, w.before args s = true := fun w h => atoms_spec (ws := bw_Jx35411_hasNext_aae02) B.pre w (List.mem_cons_of_mem _ h)
  have hown : s.vm.findClass RJx35411 = some m.cls := findClass_of_methodNamed B.named
  have hlocks := B.notSynchronized
  subst hsz
  have hw := wk.start hP hD
  refine k_start (by rfl) hav (Nat.le_of_ble_eq_true rfl) (fun ls hl => ?_)
  have hl : lv_has ls 1 [(0, .ref (ad it 0))] := hl
  have hE : sp_Jx35411_hasNext_aae02 i n = sp_Jx35411_hasNext_aae02 i n := rfl
  refine lv_aload_n hx hb dJx35411_hasNext_aae02_0 rfl (lv_at hl 0 rfl) ?_
  refine k_get (C := RJx35411) (T := TJx35411) (N := 4) (v := .int (nI i)) hx hb hts inB_Jx35411 hown hK hw hi hci rfl 0 (by decide) (hts _ w_f_Jx35411_25) (fun _ h9 => h9) rfl dJx35411_hasNext_aae02_1 ?_
  refine lv_aload_n hx hb dJx35411_hasNext_aae02_4 rfl (lv_at hl 0 rfl) ?_
  refine k_get (C := RJx35411) (T := TJx35411) (N := 4) (v := .ref (ad lf 0)) hx hb hts inB_Jx35411 hown hK hw hi hci rfl 3 (by decide) (hts _ w_f_Jx35411_1) (fun _ h9 => h9) rfl dJx35411_hasNext_aae02_5 ?_
  refine k_getN (C := RJx4a65c) (T := TJx4a65c) (N := 3) (v := .int n) hx hb hts inB_Jx4a65c hown hK hw hll hc rfl 2 (by decide) ((hO.2.2.1 _ w_fn_it_28).use rfl) (fun _ h9 => h9) rfl dJx35411_hasNext_aae02_8 ?_
  refine lv_icmp_eq (tgt := 18) hx hb dJx35411_hasNext_aae02_11 (by decide) (fun c_1 => ?_) (fun c_1 => ?_)
  · have hE := hE.trans (if_pos c_1)
    refine lv_iconst (v := 0) hx hb dJx35411_hasNext_aae02_18 (by decide) ?_
    exact k_iret hx hb hr hlocks rfl hw hE rfl dJx35411_hasNext_aae02_19
  · have hE := hE.trans (if_neg c_1)
    refine lv_iconst (v := 1) hx hb dJx35411_hasNext_aae02_14 (by decide) ?_
    refine lv_goto (tgt := 19) hx hb dJx35411_hasNext_aae02_15 (by decide) ?_
    exact k_iret hx hb hr hlocks rfl hw hE rfl dJx35411_hasNext_aae02_19

abbrev bw_Jx35411_checkForComodification_da8c8 : List Cond := .code yJx35411_checkForComodification_da8c8 cJx35411_checkForComodification_da8c8 1 none :: BIG
abbrev rm_Jx35411_checkForComodification_da8c8 : Room := { frames := 0, cells := 0, slots := 0, locals := 0 }
noncomputable def sp_Jx35411_checkForComodification_da8c8 : Unit := ()
set_option maxHeartbeats 1000000 in
set_option maxRecDepth 100000 in
theorem ct_Jx35411_checkForComodification_da8c8 {l : Launch} {D : va_G} {cI cG cJ cO : ClassId} {K0 : Nat → Nat} {A : Nat → Prop} {L : List (Nat × Nat)} {ad : Nat → Nat → Nat} {ce : Nat → Nat → va_E} {lf : Nat} {mo n : Int32} {el : Value} (hll : (lf, 0) ∈ L) (hc : ce lf 0 = .inr (2, [.int mo, el, .int n])) {it i : Nat} (hi : (it, 0) ∈ L) (hci : ce it 0 = .inr (1, [.int (nI i), .int (itl i), .int mo, .ref (ad lf 0)])) (sz : Nat) (hA : ∀ q, sz ≤ q → A q) : Met l yJx35411_checkForComodification_da8c8 bw_Jx35411_checkForComodification_da8c8 rm_Jx35411_checkForComodification_da8c8 (kP D (ktys cI cG cJ cO) K0 A L ad ce sz [.ref (ad it 0)]) (kQv D A L ad ce) 0 0 A := by
  refine Met.ofW (cc := cJx35411_checkForComodification_da8c8) (maxL := 1) (ret := none) (by decide) rfl ?_
  intro p e s m args below meth c s₁ B hml hv
  obtain ⟨hav, hsz, hP, hD, hK, hO⟩ := hv
  have hx := B.exec
  have hb := B.bytes
  have hr := B.returns
  have hts : ∀ w ∈ BIG, w.before args s = true := fun w h => atoms_spec (ws := bw_Jx35411_checkForComodification_da8c8) B.pre w (List.mem_cons_of_mem _ h)
  have hown : s.vm.findClass RJx35411 = some m.cls := findClass_of_methodNamed B.named
  have hlocks := B.notSynchronized
  subst hsz
  have hw := wk.start hP hD
  refine k_start (by rfl) hav (Nat.le_of_ble_eq_true rfl) (fun ls hl => ?_)
  have hl : lv_has ls 1 [(0, .ref (ad it 0))] := hl
  have hE : sp_Jx35411_checkForComodification_da8c8 = () := by unfold sp_Jx35411_checkForComodification_da8c8; rfl
  refine lv_aload_n hx hb dJx35411_checkForComodification_da8c8_0 rfl (lv_at hl 0 rfl) ?_
  refine k_get (C := RJx35411) (T := TJx35411) (N := 4) (v := .ref (ad lf 0)) hx hb hts inB_Jx35411 hown hK hw hi hci rfl 3 (by decide) (hts _ w_f_Jx35411_1) (fun _ h9 => h9) rfl dJx35411_checkForComodification_da8c8_1 ?_
  refine k_get (C := RJx4a65c) (T := TJx4a65c) (N := 3) (v := .int mo) hx hb hts inB_Jx4a65c hown hK hw hll hc rfl 0 (by decide) (hts _ w_f_Jx35411_17) (fun x9 h9 => u_same (hts _ w_sf_mod) x9 h9) rfl dJx35411_checkForComodification_da8c8_4 ?_
  refine lv_aload_n hx hb dJx35411_checkForComodification_da8c8_7 rfl (lv_at hl 0 rfl) ?_
  refine k_get (C := RJx35411) (T := TJx35411) (N := 4) (v := .int mo) hx hb hts inB_Jx35411 hown hK hw hi hci rfl 2 (by decide) (hts _ w_f_Jx35411_22) (fun _ h9 => h9) rfl dJx35411_checkForComodification_da8c8_8 ?_
  refine lv_icmp_eq (tgt := 22) hx hb dJx35411_checkForComodification_da8c8_11 (by decide) (fun _ => ?_) (fun h => absurd rfl h)
  exact k_vret hx hb hr hlocks hw rfl dJx35411_checkForComodification_da8c8_22

abbrev bw_Jx35411_next_0502b : List Cond := .code yJx35411_next_0502b cJx35411_next_0502b 3 (some (.object "java/lang/Object")) :: BIG
abbrev rm_Jx35411_next_0502b : Room := { frames := 1, cells := 0, slots := 0, locals := 20 }
noncomputable def sp_Jx35411_next_0502b (a : Nat) : Nat := a
set_option maxHeartbeats 1000000 in
set_option maxRecDepth 100000 in
theorem ct_Jx35411_next_0502b {l : Launch} {D : va_G} {cI cG cJ cO : ClassId} {K0 : Nat → Nat} {A : Nat → Prop} {L : List (Nat × Nat)} {ad : Nat → Nat → Nat} {ce : Nat → Nat → va_E} {lf bf cap : Nat} {mo n : Int32} {g : Nat → Option Nat} (hll : (lf, 0) ∈ L) (hc : ce lf 0 = .inr (2, [.int mo, .ref (ad bf 0), .int n])) (hlb : (bf, 0) ∈ L) (hcb : ce bf 0 = .inl (cO, cap, .inr (.inr (.inr (.inr g))))) {it i : Nat} (hi : (it, 0) ∈ L) (hci : ce it 0 = .inr (1, [.int (nI i), .int (itl i), .int mo, .ref (ad lf 0)])) {a : Nat} (hbn : bf ≠ it) (hin : vp_in (nI i) cap) (hic : i < cap) (hcap : cap < 2 ^ 31) (hn : nI i < n) (ha : g (nI i).toNatClampNeg = some a) (sz : Nat) (hA : ∀ q, sz ≤ q → A q) : Met l yJx35411_next_0502b bw_Jx35411_next_0502b rm_Jx35411_next_0502b (kP D (ktys cI cG cJ cO) K0 A L ad ce sz [.ref (ad it 0)]) (kQr D A a L ad (up2 ce it 0 (.inr (1, [.int (nI (i + 1)), .int (itl (i + 1)), .int mo, .ref (ad lf 0)])))) 0 0 A := by
  refine Met.ofW (cc := cJx35411_next_0502b) (maxL := 3) (ret := (some (.object "java/lang/Object"))) (by decide) rfl ?_
  intro p e s m args below meth c s₁ B hml hv
  obtain ⟨hav, hsz, hP, hD, hK, hO⟩ := hv
  have hx := B.exec
  have hb := B.bytes
  have hr := B.returns
  have hts : ∀ w ∈ BIG, w.before args s = true := fun w h => atoms_spec (ws := bw_Jx35411_next_0502b) B.pre w (List.mem_cons_of_mem _ h)
  have hown : s.vm.findClass RJx35411 = some m.cls := findClass_of_methodNamed B.named
  have hlocks := B.notSynchronized
  subst hsz
  have hw := wk.start hP hD
  refine k_start (by rfl) hav (Nat.le_of_ble_eq_true rfl) (fun ls hl => ?_)
  have hl : lv_has ls 3 [(0, .ref (ad it 0))] := hl
  have hE : sp_Jx35411_next_0502b a = a := by unfold sp_Jx35411_next_0502b; rfl
  refine lv_aload_n hx hb dJx35411_next_0502b_0 rfl (lv_at hl 0 rfl) ?_
  refine k_cv0 hw (k_rV (As := []) (rest := []) ⟨hx, hb, hml, hown, hts⟩ hK hO hw (ct_Jx35411_checkForComodification_da8c8 hll hc hi hci _ (wk.hA hw hA)) (cwV 0 hts (gB_V w_ml_Jx35411_31 w_im_Jx35411_checkForComodification_da8c8 w_se_Jx35411_checkForComodification_da8c8 w_in_Jx35411 w_co_Jx35411_checkForComodification_da8c8) rfl rfl rfl (by decide +kernel) ⟨by decide, by decide⟩) hi hci rfl rfl hl.1 rfl (Nat.le_of_ble_eq_true rfl) dJx35411_next_0502b_1 ⟨Nat.le_of_ble_eq_true rfl, Nat.le_of_ble_eq_true rfl⟩) (fun H locs hw => ?_)
  refine lv_aload_n hx hb dJx35411_next_0502b_4 rfl (lv_at hl 0 rfl) ?_
  refine k_get (C := RJx35411) (T := TJx35411) (N := 4) (v := .int (nI i)) hx hb hts inB_Jx35411 hown hK hw hi hci rfl 0 (by decide) (hts _ w_f_Jx35411_25) (fun _ h9 => h9) rfl dJx35411_next_0502b_5 ?_
  refine lv_istore_n (lv' := [(1, .int (nI i)), (0, .ref (ad it 0))]) hx hb dJx35411_next_0502b_8 rfl hl (by decide) rfl (fun ls hl => ?_)
  refine lv_iload_n hx hb dJx35411_next_0502b_9 rfl (lv_at hl 0 rfl) ?_
  refine lv_aload_n hx hb dJx35411_next_0502b_10 rfl (lv_at hl 1 rfl) ?_
  refine k_get (C := RJx35411) (T := TJx35411) (N := 4) (v := .ref (ad lf 0)) hx hb hts inB_Jx35411 hown hK hw hi hci rfl 3 (by decide) (hts _ w_f_Jx35411_1) (fun _ h9 => h9) rfl dJx35411_next_0502b_11 ?_
  refine k_getN (C := RJx4a65c) (T := TJx4a65c) (N := 3) (v := .int n) hx hb hts inB_Jx4a65c hown hK hw hll hc rfl 2 (by decide) ((hO.2.2.1 _ w_fn_it_28).use rfl) (fun _ h9 => h9) rfl dJx35411_next_0502b_14 ?_
  refine lv_icmp_lt (tgt := 28) hx hb dJx35411_next_0502b_17 (by decide) (fun _ => ?_) (fun h => absurd hn h)
  refine lv_aload_n hx hb dJx35411_next_0502b_28 rfl (lv_at hl 1 rfl) ?_
  refine k_get (C := RJx35411) (T := TJx35411) (N := 4) (v := .ref (ad lf 0)) hx hb hts inB_Jx35411 hown hK hw hi hci rfl 3 (by decide) (hts _ w_f_Jx35411_1) (fun _ h9 => h9) rfl dJx35411_next_0502b_29 ?_
  refine k_get (C := RJx4a65c) (T := TJx4a65c) (N := 3) (v := .ref (ad bf 0)) hx hb hts inB_Jx4a65c hown hK hw hll hc rfl 1 (by decide) (hts _ w_f_Jx35411_37) (fun _ h9 => h9) rfl dJx35411_next_0502b_32 ?_
  refine lv_astore_n (lv' := [(2, .ref (ad bf 0)), (1, .int (nI i)), (0, .ref (ad it 0))]) hx hb dJx35411_next_0502b_35 rfl hl (by decide) rfl (fun ls hl => ?_)
  refine lv_iload_n hx hb dJx35411_next_0502b_36 rfl (lv_at hl 1 rfl) ?_
  refine lv_aload_n hx hb dJx35411_next_0502b_37 rfl (lv_at hl 0 rfl) ?_
  refine k_alen hx hb hK hw hlb 3 hcb rfl dJx35411_next_0502b_38 ?_
  refine lv_icmp_lt (tgt := 50) hx hb dJx35411_next_0502b_39 (by decide) (fun _ => ?_) (fun h => absurd (nI_lt hic hcap) h)
  refine lv_aload_n hx hb dJx35411_next_0502b_50 rfl (lv_at hl 2 rfl) ?_
  refine lv_iload_n hx hb dJx35411_next_0502b_51 rfl (lv_at hl 1 rfl) ?_
  refine lv_iconst (v := 1) hx hb dJx35411_next_0502b_52 (by decide) ?_
  refine lv_iadd hx hb dJx35411_next_0502b_53 ?_
  refine k_put (C := RJx35411) (T := TJx35411) (N := 4) (v := .int ((nI i) + 1)) (ty := .int) hx hb hts inB_Jx35411 tyJx35411 tyJx35411_ok nmJx35411 hown hK hw hi hci rfl 0 (by decide) (hts _ w_f_Jx35411_25) (fun _ h9 => h9) rfl (by decide +kernel) rfl rfl (Nat.le_of_ble_eq_true rfl) rfl dJx35411_next_0502b_54 (fun H locs hw => ?_)
  refine lv_aload_n hx hb dJx35411_next_0502b_57 rfl (lv_at hl 0 rfl) ?_
  refine lv_aload_n hx hb dJx35411_next_0502b_58 rfl (lv_at hl 2 rfl) ?_
  refine lv_iload_n hx hb dJx35411_next_0502b_59 rfl (lv_at hl 1 rfl) ?_
  refine lv_dup_x1 hx hb dJx35411_next_0502b_60 rfl rfl ?_
  refine k_put (C := RJx35411) (T := TJx35411) (N := 4) (v := .int (nI i)) (ty := .int) hx hb hts inB_Jx35411 tyJx35411 tyJx35411_ok nmJx35411 hown hK hw hi up2_eq rfl 1 (by decide) (hts _ w_f_Jx35411_13) (fun _ h9 => h9) rfl (by decide +kernel) rfl rfl (Nat.le_of_ble_eq_true rfl) rfl dJx35411_next_0502b_61 (fun H locs hw => ?_)
  refine k_aldq hx hb hK hw hlb 3 ((up2_n hbn).trans ((up2_n hbn).trans hcb)) rfl hin (a := a) ha dJx35411_next_0502b_64 ?_
  exact k_rret hx hb hr (Or.inl ⟨_, rfl⟩) hlocks hw rfl (by rw [← nI_1]; exact up2_up2.symm) dJx35411_next_0502b_65
