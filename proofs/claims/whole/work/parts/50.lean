section MNEW
variable {p : Program} {l : Launch} {e : Env} {R : Room} {s : State} {m : MethodId} {args : Array Value} {below : List Frame} {meth : Method} {c : Code} {H : Heap} {locs : List Loc} {cells slots : Nat} {Q : State → Prop} {cc : ByteArray} {pc : Nat} {ls : Array Slot} {rest st0 : List Value} {D : va_G} {A : Nat → Prop} {tys : List (ClassId × FieldType)} {K0 : Nat → Nat} {H0 : Heap} {L L' : List (Nat × Nat)} {ad ad' : Nat → Nat → Nat} {ce ce' : Nat → Nat → va_E} {cI cG cJ cO : ClassId} {mc ms : Nat}
variable {cp : Nat → Nat} {M : Nat → Nat → Nat → Int32} {o : Nat} {v0 v1 : Int32}
/-- the reference's cells of the ids N -/
def mX (cI cO : ClassId) (K0 : Nat → Nat) (cp : Nat → Nat) (M : Nat → Nat → Nat → Int32) (u : Nat → Nat → Nat) (ce : Nat → Nat → va_E) (N : List (Nat × Nat)) : Nat → Nat → va_E := fun f o => if (f, o) ∈ N then mcell cI cO K0 u cp M f o else ce f o
/-- the state with a new joiner's own rows -/
def newJ (M : Nat → Nat → Nat → Int32) (o : Nat) (v0 v1 : Int32) : Nat → Nat → Nat → Int32 := fun f o' => if o' = o ∧ (f = 6 ∨ (23 < f ∧ f < 29)) then (if f = 6 then fun k => if k = 0 then v0 else if k = 1 then v1 else 0 else if f = 27 then fun q => if q < 12 then (-1 : Int32) else 0 else fun _ => 0) else M f o'
theorem nj_6 : newJ M o v0 v1 6 o = fun k => if k = 0 then v0 else if k = 1 then v1 else 0 := if_pos ⟨rfl, Or.inl rfl⟩
theorem nj_27 : newJ M o v0 v1 27 o = fun q => if q < 12 then (-1 : Int32) else 0 := if_pos ⟨rfl, Or.inr ⟨by decide, by decide⟩⟩
theorem nj_z {f : Nat} (h : 23 < f) (h2 : f < 29) (h3 : f ≠ 27) : newJ M o v0 v1 f o = fun _ => 0 := by
  unfold newJ
  rw [if_pos ⟨rfl, Or.inr ⟨h, h2⟩⟩, if_neg (by omega), if_neg h3]
theorem nj_o {f o' : Nat} (h : ¬ (o' = o ∧ (f = 6 ∨ (23 < f ∧ f < 29)))) : newJ M o v0 v1 f o' = M f o' := if_neg h
variable {u : Nat → Nat → Nat}
theorem mc_46 : mcell cI cO K0 u cp M 46 o = .inr (9, [.int (M 6 o 0), .int (M 6 o 1), .ref (u 47 o), .ref (u 48 o), .ref (u 49 o), .ref (u 50 o), .ref (u 51 o), .int (M 6 o 2)]) := rfl
theorem mc_47 : mcell cI cO K0 u cp M 47 o = .inl (cI, 12, .inl (M 24 o)) := rfl
theorem mc_48 : mcell cI cO K0 u cp M 48 o = .inl (cI, 12, .inl (M 25 o)) := rfl
theorem mc_49 : mcell cI cO K0 u cp M 49 o = .inl (cI, 12, .inl (M 26 o)) := rfl
theorem mc_50 : mcell cI cO K0 u cp M 50 o = .inl (cI, 12, .inl (M 27 o)) := rfl
theorem mc_51 : mcell cI cO K0 u cp M 51 o = .inl (cI, 12, .inl (M 28 o)) := rfl
/-- the reference's first state -/
def M0 : Nat → Nat → Nat → Int32 := fun _ _ _ => 0
theorem mc_30 : mcell cI cO K0 u cp M 30 0 = .inr (13, [.int (M 40 0 0), .ref (u 31 0), .ref (u 36 0), .ref (u 32 0), .ref (u 37 0), .ref (u 33 0), .ref (u 34 0), .ref (u 35 0), .int (M 0 0 1)]) := rfl
end MNEW

abbrev bw_X6_init : List Cond := .code yX6_init cX6_init 4 none :: BIG
abbrev rm_X6_init : Room := { frames := 1, cells := 5, slots := 60, locals := 12 }
set_option maxHeartbeats 1000000 in
set_option maxRecDepth 100000 in
theorem ct_X6_init {l : Launch} {D : va_G} {cI cG cJ cO : ClassId} {K0 : Nat → Nat} {A : Nat → Prop} {L : List (Nat × Nat)} {ad : Nat → Nat → Nat} {ce : Nat → Nat → va_E} {cp : Nat → Nat} {M : Nat → Nat → Nat → Int32} {o a0 : Nat} {v0 v1 : Int32} (ma0 : (46, o) ∈ L) (ha0 : ad 46 o = a0) (hc : ce 46 o = .inr (9, [.int 0, .int 0, .null, .null, .null, .null, .null, .int 0])) (n47 : (47, o) ∉ L) (n48 : (48, o) ∉ L) (n49 : (49, o) ∉ L) (n50 : (50, o) ∉ L) (n51 : (51, o) ∉ L) (sz : Nat) (hA : ∀ q, sz ≤ q → A q) : Met l yX6_init bw_X6_init rm_X6_init (kP D (ktys cI cG cJ cO) K0 A L ad ce sz [.ref a0, .int v0, .int v1]) (kQx D A L ad (L ++ [(47, o)] ++ [(48, o)] ++ [(49, o)] ++ [(50, o)] ++ [(51, o)]) (fun u => mX cI cO K0 cp (newJ M o v0 v1) u ce [(46, o), (47, o), (48, o), (49, o), (50, o), (51, o)])) 5 60 A := by
  refine Met.ofW (cc := cX6_init) (maxL := 4) (ret := none) (by decide) rfl ?_
  intro p e s m args below meth c s₁ B hml hv
  obtain ⟨hav, hsz, hP, hD, hK, hO⟩ := hv
  have hx := B.exec
  have hb := B.bytes
  have hr := B.returns
  have hts : ∀ w ∈ BIG, w.before args s = true := fun w h => atoms_spec (ws := bw_X6_init) B.pre w (List.mem_cons_of_mem _ h)
  have hown : s.vm.findClass RX6 = some m.cls := findClass_of_methodNamed B.named
  have hlocks := B.notSynchronized
  have hin : meth.name = "<init>" := (name_of_methodNamed B.named B.method).1
  subst hsz
  have hw := wk.start hP hD
  refine k_start (by rfl) hav (Nat.le_of_ble_eq_true rfl) (fun ls hl => ?_)
  have hl : lv_has ls 4 [(0, .ref a0), (1, .int v0), (2, .int v1)] := hl
  have hX : Ex L ad ad := fun _ _ _ => rfl
  have hs : ∀ i, i ∈ L → i ∈ L := fun _ h => h
  refine lv_aload_n hx hb dX6_init_0 rfl (lv_at hl 0 rfl) ?_
  refine W.objInit hx hb hown (hts _ w_oi_X6) (hts _ w_oi_im) (hts _ w_oi_co) rfl (by rw [hml]; exact hl.1) rfl dX6_init_1 (Nat.le_of_ble_eq_true rfl) (Nat.le_of_ble_eq_true rfl) ?_
  refine W.eq (g2 := F0 m 4 ls []) rfl ?_
  refine lv_aload_n hx hb dX6_init_4 rfl (lv_at hl 0 rfl) ?_
  refine lv_bipush (v := 12) hx hb dX6_init_5 (by decide) ?_
  refine k_newi2 hx hb (hts _ w_ac_int) hK hw hA (n := 12) (N' := 12) (by decide) (by decide) (Nat.le_of_ble_eq_true rfl) (Nat.le_of_ble_eq_true rfl) (Nat.le_of_ble_eq_true rfl) 47 o n47 dX6_init_7 (fun u1 a47_1 H hE1 ha47_1 hw => ?_)
  have ha0 := (hE1 _ _ ma0).trans ha0
  have ma0 := List.mem_append_left [(47, o)] ma0
  have hX := Ex.tr hX hE1 hs
  have hs := fun i h => List.mem_append_left [(47, o)] (hs i h)
  have ma47_1 := List.mem_append_right L (List.mem_singleton_self (47, o))
  have n48 := nmemf (g := 47) (p := o) n48 (by decide)
  have n49 := nmemf (g := 47) (p := o) n49 (by decide)
  have n50 := nmemf (g := 47) (p := o) n50 (by decide)
  have n51 := nmemf (g := 47) (p := o) n51 (by decide)
  refine k_putF2 (C := RX6) (T := TX6) (N := 8) (v := .ref a47_1) (ty := (.array .int)) hx hb hts inB_X6 tyX6 tyX6_ok nmX6 hown hK hw ma0 ha0 ((up2_n (by decide)).trans hc) rfl 2 (by decide) (hts _ w_f_X6_9) (fun _ h9 => h9) hin rfl rfl (by decide +kernel) rfl rfl (Nat.le_of_ble_eq_true rfl) dX6_init_9 (fun H locs hw => ?_)
  refine lv_aload_n hx hb dX6_init_12 rfl (lv_at hl 0 rfl) ?_
  refine lv_bipush (v := 12) hx hb dX6_init_13 (by decide) ?_
  refine k_newi2 hx hb (hts _ w_ac_int) hK hw hA (n := 12) (N' := 12) (by decide) (by decide) (Nat.le_of_ble_eq_true rfl) (Nat.le_of_ble_eq_true rfl) (Nat.le_of_ble_eq_true rfl) 48 o n48 dX6_init_15 (fun u2 a48_2 H hE2 ha48_2 hw => ?_)
  have ha0 := (hE2 _ _ ma0).trans ha0
  have ha47_1 := (hE2 _ _ ma47_1).trans ha47_1
  have ma0 := List.mem_append_left [(48, o)] ma0
  have ma47_1 := List.mem_append_left [(48, o)] ma47_1
  have hX := Ex.tr hX hE2 hs
  have hs := fun i h => List.mem_append_left [(48, o)] (hs i h)
  have ma48_2 := List.mem_append_right (L ++ [(47, o)]) (List.mem_singleton_self (48, o))
  have n49 := nmemf (g := 48) (p := o) n49 (by decide)
  have n50 := nmemf (g := 48) (p := o) n50 (by decide)
  have n51 := nmemf (g := 48) (p := o) n51 (by decide)
  refine k_putF2 (C := RX6) (T := TX6) (N := 8) (v := .ref a48_2) (ty := (.array .int)) hx hb hts inB_X6 tyX6 tyX6_ok nmX6 hown hK hw ma0 ha0 ((up2_n (by decide)).trans up2_eq) rfl 3 (by decide) (hts _ w_f_X6_15) (fun _ h9 => h9) hin rfl rfl (by decide +kernel) rfl rfl (Nat.le_of_ble_eq_true rfl) dX6_init_17 (fun H locs hw => ?_)
  refine lv_aload_n hx hb dX6_init_20 rfl (lv_at hl 0 rfl) ?_
  refine lv_bipush (v := 12) hx hb dX6_init_21 (by decide) ?_
  refine k_newi2 hx hb (hts _ w_ac_int) hK hw hA (n := 12) (N' := 12) (by decide) (by decide) (Nat.le_of_ble_eq_true rfl) (Nat.le_of_ble_eq_true rfl) (Nat.le_of_ble_eq_true rfl) 49 o n49 dX6_init_23 (fun u3 a49_3 H hE3 ha49_3 hw => ?_)
  have ha0 := (hE3 _ _ ma0).trans ha0
  have ha47_1 := (hE3 _ _ ma47_1).trans ha47_1
  have ha48_2 := (hE3 _ _ ma48_2).trans ha48_2
  have ma0 := List.mem_append_left [(49, o)] ma0
  have ma47_1 := List.mem_append_left [(49, o)] ma47_1
  have ma48_2 := List.mem_append_left [(49, o)] ma48_2
  have hX := Ex.tr hX hE3 hs
  have hs := fun i h => List.mem_append_left [(49, o)] (hs i h)
  have ma49_3 := List.mem_append_right (L ++ [(47, o)] ++ [(48, o)]) (List.mem_singleton_self (49, o))
  have n50 := nmemf (g := 49) (p := o) n50 (by decide)
  have n51 := nmemf (g := 49) (p := o) n51 (by decide)
  refine k_putF2 (C := RX6) (T := TX6) (N := 8) (v := .ref a49_3) (ty := (.array .int)) hx hb hts inB_X6 tyX6 tyX6_ok nmX6 hown hK hw ma0 ha0 ((up2_n (by decide)).trans up2_eq) rfl 4 (by decide) (hts _ w_f_X6_18) (fun _ h9 => h9) hin rfl rfl (by decide +kernel) rfl rfl (Nat.le_of_ble_eq_true rfl) dX6_init_25 (fun H locs hw => ?_)
  refine lv_aload_n hx hb dX6_init_28 rfl (lv_at hl 0 rfl) ?_
  refine lv_bipush (v := 12) hx hb dX6_init_29 (by decide) ?_
  refine k_newi2 hx hb (hts _ w_ac_int) hK hw hA (n := 12) (N' := 12) (by decide) (by decide) (Nat.le_of_ble_eq_true rfl) (Nat.le_of_ble_eq_true rfl) (Nat.le_of_ble_eq_true rfl) 50 o n50 dX6_init_31 (fun u4 a50_4 H hE4 ha50_4 hw => ?_)
  have ha0 := (hE4 _ _ ma0).trans ha0
  have ha47_1 := (hE4 _ _ ma47_1).trans ha47_1
  have ha48_2 := (hE4 _ _ ma48_2).trans ha48_2
  have ha49_3 := (hE4 _ _ ma49_3).trans ha49_3
  have ma0 := List.mem_append_left [(50, o)] ma0
  have ma47_1 := List.mem_append_left [(50, o)] ma47_1
  have ma48_2 := List.mem_append_left [(50, o)] ma48_2
  have ma49_3 := List.mem_append_left [(50, o)] ma49_3
  have hX := Ex.tr hX hE4 hs
  have hs := fun i h => List.mem_append_left [(50, o)] (hs i h)
  have ma50_4 := List.mem_append_right (L ++ [(47, o)] ++ [(48, o)] ++ [(49, o)]) (List.mem_singleton_self (50, o))
  have n51 := nmemf (g := 50) (p := o) n51 (by decide)
  refine k_putF2 (C := RX6) (T := TX6) (N := 8) (v := .ref a50_4) (ty := (.array .int)) hx hb hts inB_X6 tyX6 tyX6_ok nmX6 hown hK hw ma0 ha0 ((up2_n (by decide)).trans up2_eq) rfl 5 (by decide) (hts _ w_f_X6_21) (fun _ h9 => h9) hin rfl rfl (by decide +kernel) rfl rfl (Nat.le_of_ble_eq_true rfl) dX6_init_33 (fun H locs hw => ?_)
  refine lv_aload_n hx hb dX6_init_36 rfl (lv_at hl 0 rfl) ?_
  refine lv_bipush (v := 12) hx hb dX6_init_37 (by decide) ?_
  refine k_newi2 hx hb (hts _ w_ac_int) hK hw hA (n := 12) (N' := 12) (by decide) (by decide) (Nat.le_of_ble_eq_true rfl) (Nat.le_of_ble_eq_true rfl) (Nat.le_of_ble_eq_true rfl) 51 o n51 dX6_init_39 (fun u5 a51_5 H hE5 ha51_5 hw => ?_)
  have ha0 := (hE5 _ _ ma0).trans ha0
  have ha47_1 := (hE5 _ _ ma47_1).trans ha47_1
  have ha48_2 := (hE5 _ _ ma48_2).trans ha48_2
  have ha49_3 := (hE5 _ _ ma49_3).trans ha49_3
  have ha50_4 := (hE5 _ _ ma50_4).trans ha50_4
  have ma0 := List.mem_append_left [(51, o)] ma0
  have ma47_1 := List.mem_append_left [(51, o)] ma47_1
  have ma48_2 := List.mem_append_left [(51, o)] ma48_2
  have ma49_3 := List.mem_append_left [(51, o)] ma49_3
  have ma50_4 := List.mem_append_left [(51, o)] ma50_4
  have hX := Ex.tr hX hE5 hs
  have hs := fun i h => List.mem_append_left [(51, o)] (hs i h)
  have ma51_5 := List.mem_append_right (L ++ [(47, o)] ++ [(48, o)] ++ [(49, o)] ++ [(50, o)]) (List.mem_singleton_self (51, o))
  refine k_putF2 (C := RX6) (T := TX6) (N := 8) (v := .ref a51_5) (ty := (.array .int)) hx hb hts inB_X6 tyX6 tyX6_ok nmX6 hown hK hw ma0 ha0 ((up2_n (by decide)).trans up2_eq) rfl 6 (by decide) (hts _ w_f_X6_24) (fun _ h9 => h9) hin rfl rfl (by decide +kernel) rfl rfl (Nat.le_of_ble_eq_true rfl) dX6_init_41 (fun H locs hw => ?_)
  refine lv_aload_n hx hb dX6_init_44 rfl (lv_at hl 0 rfl) ?_
  refine lv_iload_n hx hb dX6_init_45 rfl (lv_at hl 1 rfl) ?_
  refine k_putF2 (C := RX6) (T := TX6) (N := 8) (v := .int v0) (ty := .int) hx hb hts inB_X6 tyX6 tyX6_ok nmX6 hown hK hw ma0 ha0 up2_eq rfl 0 (by decide) (hts _ w_f_X6_27) (fun _ h9 => h9) hin rfl rfl (by decide +kernel) rfl rfl (Nat.le_of_ble_eq_true rfl) dX6_init_46 (fun H locs hw => ?_)
  refine lv_aload_n hx hb dX6_init_49 rfl (lv_at hl 0 rfl) ?_
  refine lv_iload_n hx hb dX6_init_50 rfl (lv_at hl 2 rfl) ?_
  refine k_putF2 (C := RX6) (T := TX6) (N := 8) (v := .int v1) (ty := .int) hx hb hts inB_X6 tyX6 tyX6_ok nmX6 hown hK hw ma0 ha0 up2_eq rfl 1 (by decide) (hts _ w_f_X6_31) (fun _ h9 => h9) hin rfl rfl (by decide +kernel) rfl rfl (Nat.le_of_ble_eq_true rfl) dX6_init_51 (fun H locs hw => ?_)
  refine lv_iconst (v := 0) hx hb dX6_init_54 (by decide) ?_
  refine lv_istore_n (lv' := [(3, .int 0), (0, .ref a0), (1, .int v0), (2, .int v1)]) hx hb dX6_init_55 rfl hl (by decide) rfl (fun ls hl => ?_)
  obtain ⟨CE, hCE⟩ : ∃ CE : Nat → Nat → va_E, CE = up2 (up2 (up2 (up2 (up2 (up2 (up2 (up2 (up2 (up2 (up2 (up2 ce 47 o (.inl (cI, 12, .inl (fun _ => 0)))) 46 o (.inr (9, [.int 0, .int 0, .ref a47_1, .null, .null, .null, .null, .int 0]))) 48 o (.inl (cI, 12, .inl (fun _ => 0)))) 46 o (.inr (9, [.int 0, .int 0, .ref a47_1, .ref a48_2, .null, .null, .null, .int 0]))) 49 o (.inl (cI, 12, .inl (fun _ => 0)))) 46 o (.inr (9, [.int 0, .int 0, .ref a47_1, .ref a48_2, .ref a49_3, .null, .null, .int 0]))) 50 o (.inl (cI, 12, .inl (fun _ => 0)))) 46 o (.inr (9, [.int 0, .int 0, .ref a47_1, .ref a48_2, .ref a49_3, .ref a50_4, .null, .int 0]))) 51 o (.inl (cI, 12, .inl (fun _ => 0)))) 46 o (.inr (9, [.int 0, .int 0, .ref a47_1, .ref a48_2, .ref a49_3, .ref a50_4, .ref a51_5, .int 0]))) 46 o (.inr (9, [.int v0, .int 0, .ref a47_1, .ref a48_2, .ref a49_3, .ref a50_4, .ref a51_5, .int 0]))) 46 o (.inr (9, [.int v0, .int v1, .ref a47_1, .ref a48_2, .ref a49_3, .ref a50_4, .ref a51_5, .int 0])) := ⟨_, rfl⟩
  have hw : wk D A (L ++ [(47, o)] ++ [(48, o)] ++ [(49, o)] ++ [(50, o)] ++ [(51, o)]) u5 CE s.heap H locs := by rw [hCE]; exact hw
  have hbk : CE 50 o = .inl (cI, 12, .inl (fun _ => 0)) := by rw [hCE]; exact ((up2_n (by decide)).trans ((up2_n (by decide)).trans ((up2_n (by decide)).trans ((up2_n (by decide)).trans ((up2_n (by decide)).trans up2_eq)))))
  have hth : CE 46 o = .inr (9, [.int v0, .int v1, .ref a47_1, .ref a48_2, .ref a49_3, .ref a50_4, .ref a51_5, .int 0]) := by rw [hCE]; exact up2_eq
  have key : ∀ (k i : Nat) (H : Heap) (locs : List Loc) (ls : Array Slot), i + k = 12 → wk D A (L ++ [(47, o)] ++ [(48, o)] ++ [(49, o)] ++ [(50, o)] ++ [(51, o)]) u5 (up2 CE 50 o (.inl (cI, 12, .inl (fun q => if q < i then (-1 : Int32) else 0)))) s.heap H locs → lv_has ls 4 [(3, .int (nI i)), (0, .ref a0), (1, .int v0), (2, .int v1)] → W p l e (headSpec bw_X6_init rm_X6_init).room s m args below meth c H locs 5 60 (MQ below (kQx D A L ad (L ++ [(47, o)] ++ [(48, o)] ++ [(49, o)] ++ [(50, o)] ++ [(51, o)]) (fun u => mX cI cO K0 cp (newJ M o v0 v1) u ce [(46, o), (47, o), (48, o), (49, o), (50, o), (51, o)])) args s 5 60 A) (F0 m 56 ls []) := by
    intro k
    induction k with
    | zero =>
      intro i H locs ls hk hw hl
      obtain rfl : i = 12 := hk
      refine lv_iload_n hx hb dX6_init_56 rfl (lv_at hl 0 rfl) ?_
      refine lv_bipush (v := 12) hx hb dX6_init_57 (by decide) ?_
      refine lv_icmp_ge (tgt := 75) hx hb dX6_init_59 (by decide) (fun _ => ?_) (fun h => absurd (by decide) h)
      subst hCE
      refine k_vretx hx hb hr hlocks hw hX ?_ (Nat.le_of_ble_eq_true rfl) (Nat.le_of_ble_eq_true rfl) dX6_init_75
      show mX cI cO K0 cp (newJ M o v0 v1) u5 ce [(46, o), (47, o), (48, o), (49, o), (50, o), (51, o)] = _
      funext f p
      unfold mX
      by_cases h : (f, p) ∈ ([(46, o), (47, o), (48, o), (49, o), (50, o), (51, o)] : List (Nat × Nat))
      · rw [if_pos h]
        simp only [List.mem_cons, List.not_mem_nil, or_false, Prod.mk.injEq] at h
        rcases h with ⟨rfl, rfl⟩ | ⟨rfl, rfl⟩ | ⟨rfl, rfl⟩ | ⟨rfl, rfl⟩ | ⟨rfl, rfl⟩ | ⟨rfl, rfl⟩
        · refine Eq.trans ?_ (((up2_n (by decide)).trans up2_eq)).symm
          rw [mc_46, nj_6, ha47_1, ha48_2, ha49_3, ha50_4, ha51_5]
          all_goals rfl
        · refine Eq.trans ?_ (((up2_n (by decide)).trans ((up2_n (by decide)).trans ((up2_n (by decide)).trans ((up2_n (by decide)).trans ((up2_n (by decide)).trans ((up2_n (by decide)).trans ((up2_n (by decide)).trans ((up2_n (by decide)).trans ((up2_n (by decide)).trans ((up2_n (by decide)).trans ((up2_n (by decide)).trans ((up2_n (by decide)).trans up2_eq))))))))))))).symm
          rw [mc_47, nj_z (by decide) (by decide) (by decide)]
        · refine Eq.trans ?_ (((up2_n (by decide)).trans ((up2_n (by decide)).trans ((up2_n (by decide)).trans ((up2_n (by decide)).trans ((up2_n (by decide)).trans ((up2_n (by decide)).trans ((up2_n (by decide)).trans ((up2_n (by decide)).trans ((up2_n (by decide)).trans ((up2_n (by decide)).trans up2_eq))))))))))).symm
          rw [mc_48, nj_z (by decide) (by decide) (by decide)]
        · refine Eq.trans ?_ (((up2_n (by decide)).trans ((up2_n (by decide)).trans ((up2_n (by decide)).trans ((up2_n (by decide)).trans ((up2_n (by decide)).trans ((up2_n (by decide)).trans ((up2_n (by decide)).trans ((up2_n (by decide)).trans up2_eq))))))))).symm
          rw [mc_49, nj_z (by decide) (by decide) (by decide)]
        · refine Eq.trans ?_ (up2_eq).symm
          rw [mc_50, nj_27]
        · refine Eq.trans ?_ (((up2_n (by decide)).trans ((up2_n (by decide)).trans ((up2_n (by decide)).trans ((up2_n (by decide)).trans up2_eq))))).symm
          rw [mc_51, nj_z (by decide) (by decide) (by decide)]
      · rw [if_neg h]
        have z47 : ¬ (f = 47 ∧ p = o) := fun z => h (by rw [z.1, z.2]; simp)
        have z46 : ¬ (f = 46 ∧ p = o) := fun z => h (by rw [z.1, z.2]; simp)
        have z48 : ¬ (f = 48 ∧ p = o) := fun z => h (by rw [z.1, z.2]; simp)
        have z49 : ¬ (f = 49 ∧ p = o) := fun z => h (by rw [z.1, z.2]; simp)
        have z50 : ¬ (f = 50 ∧ p = o) := fun z => h (by rw [z.1, z.2]; simp)
        have z51 : ¬ (f = 51 ∧ p = o) := fun z => h (by rw [z.1, z.2]; simp)
        exact ((up2_o z50).trans ((up2_o z46).trans ((up2_o z46).trans ((up2_o z46).trans ((up2_o z51).trans ((up2_o z46).trans ((up2_o z50).trans ((up2_o z46).trans ((up2_o z49).trans ((up2_o z46).trans ((up2_o z48).trans ((up2_o z46).trans ((up2_o z47).trans rfl))))))))))))).symm
    | succ k ih =>
      intro i H locs ls hk hw hl
      have hi : i < 12 := by omega
      refine lv_iload_n hx hb dX6_init_56 rfl (lv_at hl 0 rfl) ?_
      refine lv_bipush (v := 12) hx hb dX6_init_57 (by decide) ?_
      refine lv_icmp_ge (tgt := 75) hx hb dX6_init_59 (by decide) (fun h => absurd h (nI_ge (b := 12) hi (by decide))) (fun _ => ?_)
      refine lv_aload_n hx hb dX6_init_62 rfl (lv_at hl 1 rfl) ?_
      refine k_get2 (C := RX6) (T := TX6) (N := 8) (v := .ref a50_4) hx hb hts inB_X6 hown hK hw ma0 ha0 ((up2_n (by decide)).trans hth) rfl 5 (by decide) (hts _ w_f_X6_21) (fun _ h9 => h9) rfl dX6_init_63 ?_
      refine lv_iload_n hx hb dX6_init_66 rfl (lv_at hl 0 rfl) ?_
      refine lv_iconst (v := (-1)) hx hb dX6_init_67 (by decide) ?_
      rw [← ha50_4]
      refine k_astn hx hb hK hw ma50_4 0 up2_eq rfl hi (by decide) (up2_up2.trans (by rw [row_s])) dX6_init_68 (fun H locs hw => ?_)
      refine lv_iinc (v := nI (i + 1)) (lv' := [(3, .int (nI (i + 1))), (0, .ref a0), (1, .int v0), (2, .int v1)]) hx hb dX6_init_69 hl (k := 0) rfl (nI_1 _) (by decide) rfl (fun ls hl => ?_)
      refine lv_goto (tgt := 56) hx hb dX6_init_72 (by decide) ?_
      exact ih (i + 1) _ _ _ (by omega) hw hl
  exact key 12 0 _ _ _ rfl (by rw [row_0, up2_same hbk]; exact hw) hl

abbrev bw_X10_init : List Cond := .code yX10_init cX10_init 1 none :: BIG
abbrev rm_X10_init : Room := { frames := 4, cells := 7, slots := 23, locals := 72 }
set_option maxHeartbeats 1000000 in
set_option maxRecDepth 100000 in
theorem ct_X10_init {l : Launch} {D : va_G} {cI cG cJ cO : ClassId} {K0 : Nat → Nat} {A : Nat → Prop} {L : List (Nat × Nat)} {ad : Nat → Nat → Nat} {ce : Nat → Nat → va_E} {a0 : Nat} (ma0 : (30, 0) ∈ L) (ha0 : ad 30 0 = a0) (hc : ce 30 0 = .inr (13, [.int 0, .null, .null, .null, .null, .null, .null, .null, .int 0])) (n31 : (31, 0) ∉ L) (n36 : (36, 0) ∉ L) (n32 : (32, 0) ∉ L) (n37 : (37, 0) ∉ L) (n33 : (33, 0) ∉ L) (n34 : (34, 0) ∉ L) (n35 : (35, 0) ∉ L) (sz : Nat) (hA : ∀ q, sz ≤ q → A q) : Met l yX10_init bw_X10_init rm_X10_init (kP D (ktys cI cG cJ cO) K0 A L ad ce sz [.ref a0]) (kQx D A L ad (L ++ [(31, 0)] ++ [(36, 0)] ++ [(32, 0)] ++ [(37, 0)] ++ [(33, 0)] ++ [(34, 0)] ++ [(35, 0)]) (fun u => mX cI cO K0 (fun _ => 0) M0 u ce [(30, 0), (31, 0), (36, 0), (32, 0), (37, 0), (33, 0), (34, 0), (35, 0)])) 7 23 A := by
  refine Met.ofW (cc := cX10_init) (maxL := 1) (ret := none) (by decide) rfl ?_
  intro p e s m args below meth c s₁ B hml hv
  obtain ⟨hav, hsz, hP, hD, hK, hO⟩ := hv
  have hx := B.exec
  have hb := B.bytes
  have hr := B.returns
  have hts : ∀ w ∈ BIG, w.before args s = true := fun w h => atoms_spec (ws := bw_X10_init) B.pre w (List.mem_cons_of_mem _ h)
  have hown : s.vm.findClass RX10 = some m.cls := findClass_of_methodNamed B.named
  have hlocks := B.notSynchronized
  have hin : meth.name = "<init>" := (name_of_methodNamed B.named B.method).1
  subst hsz
  have hw := wk.start hP hD
  refine k_start (by rfl) hav (Nat.le_of_ble_eq_true rfl) (fun ls hl => ?_)
  have hl : lv_has ls 1 [(0, .ref a0)] := hl
  have hX : Ex L ad ad := fun _ _ _ => rfl
  have hs : ∀ i, i ∈ L → i ∈ L := fun _ h => h
  refine lv_aload_n hx hb dX10_init_0 rfl (lv_at hl 0 rfl) ?_
  refine W.objInit hx hb hown (hts _ w_oi_X10) (hts _ w_oi_im) (hts _ w_oi_co) rfl (by rw [hml]; exact hl.1) rfl dX10_init_1 (Nat.le_of_ble_eq_true rfl) (Nat.le_of_ble_eq_true rfl) ?_
  refine W.eq (g2 := F0 m 4 ls []) rfl ?_
  refine lv_aload_n hx hb dX10_init_4 rfl (lv_at hl 0 rfl) ?_
  refine k_new2 (C := RJx4a65c) (T := TJx4a65c) (N := 3) (ci := 2) (fs := [.int 0, .null, .int 0]) hx hb hts inB_Jx4a65c tyJx4a65c tyJx4a65c_ok hown (hts _ w_cl_X10_7) (hts _ w_is_Jx4a65c) (hts _ w_in_Jx4a65c) hK hw hA rfl (fun j hj => match j, hj with | 0, _ => rfl | 1, _ => rfl | 2, _ => rfl | n + 3, h => absurd h (by omega)) (Nat.le_of_ble_eq_true rfl) (Nat.le_of_ble_eq_true rfl) 31 0 n31 dX10_init_5 (fun u1 a31_1 H hE1 ha31_1 hw => ?_)
  have ha0 := (hE1 _ _ ma0).trans ha0
  have ma0 := List.mem_append_left [(31, 0)] ma0
  have hX := Ex.tr hX hE1 hs
  have hs := fun i h => List.mem_append_left [(31, 0)] (hs i h)
  have ma31_1 := List.mem_append_right L (List.mem_singleton_self (31, 0))
  have n36 := nmemf (g := 31) (p := 0) n36 (by decide)
  have n32 := nmemf (g := 31) (p := 0) n32 (by decide)
  have n37 := nmemf (g := 31) (p := 0) n37 (by decide)
  have n33 := nmemf (g := 31) (p := 0) n33 (by decide)
  have n34 := nmemf (g := 31) (p := 0) n34 (by decide)
  have n35 := nmemf (g := 31) (p := 0) n35 (by decide)
  refine lv_dup hx hb dX10_init_8 rfl ?_
  have ct := ct_Jx4a65c_init_da8c8 (l := l) (D := D) (cI := cI) (cG := cG) (cJ := cJ) (cO := cO) (K0 := K0) (A := A) (L := L ++ [(31, 0)]) (ad := u1) (ce := up2 ce 31 0 (.inr (2, [.int 0, .null, .int 0]))) (f := 31) (o := 0) ma31_1 up2_eq _ (wk.hA hw hA)
  rw [ha31_1] at ct
  refine k_cv0 hw (k_rI (As := []) (rest := [.ref a31_1, .ref a0]) ⟨hx, hb, hml, hown, hts⟩ hK hO hw ct (cwI 0 hts (gB_0 w_co_Jx4a65c_init_da8c8) rfl rfl rfl (hts _ w_in_Jx4a65c) (hts _ w_ml_X10_9) (hts _ w_im_Jx4a65c_init_da8c8) rfl (by decide +kernel) ⟨by decide, by decide⟩) rfl hl.1 rfl (Nat.le_of_ble_eq_true rfl) dX10_init_9 ⟨Nat.le_of_ble_eq_true rfl, Nat.le_of_ble_eq_true rfl⟩) (fun H locs hw => ?_)
  refine k_putF2 (C := RX10) (T := TX10) (N := 9) (v := .ref a31_1) (ty := (.object "java/util/ArrayList")) hx hb hts inB_X10 tyX10 tyX10_ok nmX10 hown hK hw ma0 ha0 ((up2_n (by decide)).trans ((up2_n (by decide)).trans hc)) rfl 1 (by decide) (hts _ w_f_X10_10) (fun _ h9 => h9) hin rfl rfl (by decide +kernel) rfl rfl (Nat.le_of_ble_eq_true rfl) dX10_init_12 (fun H locs hw => ?_)
  refine lv_aload_n hx hb dX10_init_15 rfl (lv_at hl 0 rfl) ?_
  refine lv_iconst (v := 4) hx hb dX10_init_16 (by decide) ?_
  refine k_newi2 hx hb (hts _ w_ac_int) hK hw hA (n := 4) (N' := 4) (by decide) (by decide) (Nat.le_of_ble_eq_true rfl) (Nat.le_of_ble_eq_true rfl) (Nat.le_of_ble_eq_true rfl) 36 0 n36 dX10_init_17 (fun u2 a36_2 H hE2 ha36_2 hw => ?_)
  have ha0 := (hE2 _ _ ma0).trans ha0
  have ha31_1 := (hE2 _ _ ma31_1).trans ha31_1
  have ma0 := List.mem_append_left [(36, 0)] ma0
  have ma31_1 := List.mem_append_left [(36, 0)] ma31_1
  have hX := Ex.tr hX hE2 hs
  have hs := fun i h => List.mem_append_left [(36, 0)] (hs i h)
  have ma36_2 := List.mem_append_right (L ++ [(31, 0)]) (List.mem_singleton_self (36, 0))
  have n32 := nmemf (g := 36) (p := 0) n32 (by decide)
  have n37 := nmemf (g := 36) (p := 0) n37 (by decide)
  have n33 := nmemf (g := 36) (p := 0) n33 (by decide)
  have n34 := nmemf (g := 36) (p := 0) n34 (by decide)
  have n35 := nmemf (g := 36) (p := 0) n35 (by decide)
  refine k_putF2 (C := RX10) (T := TX10) (N := 9) (v := .ref a36_2) (ty := (.array .int)) hx hb hts inB_X10 tyX10 tyX10_ok nmX10 hown hK hw ma0 ha0 ((up2_n (by decide)).trans up2_eq) rfl 2 (by decide) (hts _ w_f_X10_16) (fun _ h9 => h9) hin rfl rfl (by decide +kernel) rfl rfl (Nat.le_of_ble_eq_true rfl) dX10_init_19 (fun H locs hw => ?_)
  refine lv_aload_n hx hb dX10_init_22 rfl (lv_at hl 0 rfl) ?_
  refine k_new2 (C := RJx4a65c) (T := TJx4a65c) (N := 3) (ci := 2) (fs := [.int 0, .null, .int 0]) hx hb hts inB_Jx4a65c tyJx4a65c tyJx4a65c_ok hown (hts _ w_cl_X10_7) (hts _ w_is_Jx4a65c) (hts _ w_in_Jx4a65c) hK hw hA rfl (fun j hj => match j, hj with | 0, _ => rfl | 1, _ => rfl | 2, _ => rfl | n + 3, h => absurd h (by omega)) (Nat.le_of_ble_eq_true rfl) (Nat.le_of_ble_eq_true rfl) 32 0 n32 dX10_init_23 (fun u3 a32_3 H hE3 ha32_3 hw => ?_)
  have ha0 := (hE3 _ _ ma0).trans ha0
  have ha31_1 := (hE3 _ _ ma31_1).trans ha31_1
  have ha36_2 := (hE3 _ _ ma36_2).trans ha36_2
  have ma0 := List.mem_append_left [(32, 0)] ma0
  have ma31_1 := List.mem_append_left [(32, 0)] ma31_1
  have ma36_2 := List.mem_append_left [(32, 0)] ma36_2
  have hX := Ex.tr hX hE3 hs
  have hs := fun i h => List.mem_append_left [(32, 0)] (hs i h)
  have ma32_3 := List.mem_append_right (L ++ [(31, 0)] ++ [(36, 0)]) (List.mem_singleton_self (32, 0))
  have n37 := nmemf (g := 32) (p := 0) n37 (by decide)
  have n33 := nmemf (g := 32) (p := 0) n33 (by decide)
  have n34 := nmemf (g := 32) (p := 0) n34 (by decide)
  have n35 := nmemf (g := 32) (p := 0) n35 (by decide)
  refine lv_dup hx hb dX10_init_26 rfl ?_
  have ct := ct_Jx4a65c_init_da8c8 (l := l) (D := D) (cI := cI) (cG := cG) (cJ := cJ) (cO := cO) (K0 := K0) (A := A) (L := L ++ [(31, 0)] ++ [(36, 0)] ++ [(32, 0)]) (ad := u3) (ce := up2 (up2 (up2 (up2 (up2 (up2 ce 31 0 (.inr (2, [.int 0, .null, .int 0]))) 31 0 (.inr (2, [.int 0, .ref (K0 0), .int 0]))) 30 0 (.inr (13, [.int 0, .ref a31_1, .null, .null, .null, .null, .null, .null, .int 0]))) 36 0 (.inl (cI, 4, .inl (fun _ => 0)))) 30 0 (.inr (13, [.int 0, .ref a31_1, .ref a36_2, .null, .null, .null, .null, .null, .int 0]))) 32 0 (.inr (2, [.int 0, .null, .int 0]))) (f := 32) (o := 0) ma32_3 up2_eq _ (wk.hA hw hA)
  rw [ha32_3] at ct
  refine k_cv0 hw (k_rI (As := []) (rest := [.ref a32_3, .ref a0]) ⟨hx, hb, hml, hown, hts⟩ hK hO hw ct (cwI 0 hts (gB_0 w_co_Jx4a65c_init_da8c8) rfl rfl rfl (hts _ w_in_Jx4a65c) (hts _ w_ml_X10_9) (hts _ w_im_Jx4a65c_init_da8c8) rfl (by decide +kernel) ⟨by decide, by decide⟩) rfl hl.1 rfl (Nat.le_of_ble_eq_true rfl) dX10_init_27 ⟨Nat.le_of_ble_eq_true rfl, Nat.le_of_ble_eq_true rfl⟩) (fun H locs hw => ?_)
  refine k_putF2 (C := RX10) (T := TX10) (N := 9) (v := .ref a32_3) (ty := (.object "java/util/ArrayList")) hx hb hts inB_X10 tyX10 tyX10_ok nmX10 hown hK hw ma0 ha0 ((up2_n (by decide)).trans ((up2_n (by decide)).trans up2_eq)) rfl 3 (by decide) (hts _ w_f_X10_20) (fun _ h9 => h9) hin rfl rfl (by decide +kernel) rfl rfl (Nat.le_of_ble_eq_true rfl) dX10_init_30 (fun H locs hw => ?_)
  refine lv_aload_n hx hb dX10_init_33 rfl (lv_at hl 0 rfl) ?_
  refine lv_iconst (v := 4) hx hb dX10_init_34 (by decide) ?_
  refine k_newi2 hx hb (hts _ w_ac_int) hK hw hA (n := 4) (N' := 4) (by decide) (by decide) (Nat.le_of_ble_eq_true rfl) (Nat.le_of_ble_eq_true rfl) (Nat.le_of_ble_eq_true rfl) 37 0 n37 dX10_init_35 (fun u4 a37_4 H hE4 ha37_4 hw => ?_)
  have ha0 := (hE4 _ _ ma0).trans ha0
  have ha31_1 := (hE4 _ _ ma31_1).trans ha31_1
  have ha36_2 := (hE4 _ _ ma36_2).trans ha36_2
  have ha32_3 := (hE4 _ _ ma32_3).trans ha32_3
  have ma0 := List.mem_append_left [(37, 0)] ma0
  have ma31_1 := List.mem_append_left [(37, 0)] ma31_1
  have ma36_2 := List.mem_append_left [(37, 0)] ma36_2
  have ma32_3 := List.mem_append_left [(37, 0)] ma32_3
  have hX := Ex.tr hX hE4 hs
  have hs := fun i h => List.mem_append_left [(37, 0)] (hs i h)
  have ma37_4 := List.mem_append_right (L ++ [(31, 0)] ++ [(36, 0)] ++ [(32, 0)]) (List.mem_singleton_self (37, 0))
  have n33 := nmemf (g := 37) (p := 0) n33 (by decide)
  have n34 := nmemf (g := 37) (p := 0) n34 (by decide)
  have n35 := nmemf (g := 37) (p := 0) n35 (by decide)
  refine k_putF2 (C := RX10) (T := TX10) (N := 9) (v := .ref a37_4) (ty := (.array .int)) hx hb hts inB_X10 tyX10 tyX10_ok nmX10 hown hK hw ma0 ha0 ((up2_n (by decide)).trans up2_eq) rfl 4 (by decide) (hts _ w_f_X10_23) (fun _ h9 => h9) hin rfl rfl (by decide +kernel) rfl rfl (Nat.le_of_ble_eq_true rfl) dX10_init_37 (fun H locs hw => ?_)
  refine lv_aload_n hx hb dX10_init_40 rfl (lv_at hl 0 rfl) ?_
  refine k_new2 (C := RJx4a65c) (T := TJx4a65c) (N := 3) (ci := 2) (fs := [.int 0, .null, .int 0]) hx hb hts inB_Jx4a65c tyJx4a65c tyJx4a65c_ok hown (hts _ w_cl_X10_7) (hts _ w_is_Jx4a65c) (hts _ w_in_Jx4a65c) hK hw hA rfl (fun j hj => match j, hj with | 0, _ => rfl | 1, _ => rfl | 2, _ => rfl | n + 3, h => absurd h (by omega)) (Nat.le_of_ble_eq_true rfl) (Nat.le_of_ble_eq_true rfl) 33 0 n33 dX10_init_41 (fun u5 a33_5 H hE5 ha33_5 hw => ?_)
  have ha0 := (hE5 _ _ ma0).trans ha0
  have ha31_1 := (hE5 _ _ ma31_1).trans ha31_1
  have ha36_2 := (hE5 _ _ ma36_2).trans ha36_2
  have ha32_3 := (hE5 _ _ ma32_3).trans ha32_3
  have ha37_4 := (hE5 _ _ ma37_4).trans ha37_4
  have ma0 := List.mem_append_left [(33, 0)] ma0
  have ma31_1 := List.mem_append_left [(33, 0)] ma31_1
  have ma36_2 := List.mem_append_left [(33, 0)] ma36_2
  have ma32_3 := List.mem_append_left [(33, 0)] ma32_3
  have ma37_4 := List.mem_append_left [(33, 0)] ma37_4
  have hX := Ex.tr hX hE5 hs
  have hs := fun i h => List.mem_append_left [(33, 0)] (hs i h)
  have ma33_5 := List.mem_append_right (L ++ [(31, 0)] ++ [(36, 0)] ++ [(32, 0)] ++ [(37, 0)]) (List.mem_singleton_self (33, 0))
  have n34 := nmemf (g := 33) (p := 0) n34 (by decide)
  have n35 := nmemf (g := 33) (p := 0) n35 (by decide)
  refine lv_dup hx hb dX10_init_44 rfl ?_
  have ct := ct_Jx4a65c_init_da8c8 (l := l) (D := D) (cI := cI) (cG := cG) (cJ := cJ) (cO := cO) (K0 := K0) (A := A) (L := L ++ [(31, 0)] ++ [(36, 0)] ++ [(32, 0)] ++ [(37, 0)] ++ [(33, 0)]) (ad := u5) (ce := up2 (up2 (up2 (up2 (up2 (up2 (up2 (up2 (up2 (up2 (up2 ce 31 0 (.inr (2, [.int 0, .null, .int 0]))) 31 0 (.inr (2, [.int 0, .ref (K0 0), .int 0]))) 30 0 (.inr (13, [.int 0, .ref a31_1, .null, .null, .null, .null, .null, .null, .int 0]))) 36 0 (.inl (cI, 4, .inl (fun _ => 0)))) 30 0 (.inr (13, [.int 0, .ref a31_1, .ref a36_2, .null, .null, .null, .null, .null, .int 0]))) 32 0 (.inr (2, [.int 0, .null, .int 0]))) 32 0 (.inr (2, [.int 0, .ref (K0 0), .int 0]))) 30 0 (.inr (13, [.int 0, .ref a31_1, .ref a36_2, .ref a32_3, .null, .null, .null, .null, .int 0]))) 37 0 (.inl (cI, 4, .inl (fun _ => 0)))) 30 0 (.inr (13, [.int 0, .ref a31_1, .ref a36_2, .ref a32_3, .ref a37_4, .null, .null, .null, .int 0]))) 33 0 (.inr (2, [.int 0, .null, .int 0]))) (f := 33) (o := 0) ma33_5 up2_eq _ (wk.hA hw hA)
  rw [ha33_5] at ct
  refine k_cv0 hw (k_rI (As := []) (rest := [.ref a33_5, .ref a0]) ⟨hx, hb, hml, hown, hts⟩ hK hO hw ct (cwI 0 hts (gB_0 w_co_Jx4a65c_init_da8c8) rfl rfl rfl (hts _ w_in_Jx4a65c) (hts _ w_ml_X10_9) (hts _ w_im_Jx4a65c_init_da8c8) rfl (by decide +kernel) ⟨by decide, by decide⟩) rfl hl.1 rfl (Nat.le_of_ble_eq_true rfl) dX10_init_45 ⟨Nat.le_of_ble_eq_true rfl, Nat.le_of_ble_eq_true rfl⟩) (fun H locs hw => ?_)
  refine k_putF2 (C := RX10) (T := TX10) (N := 9) (v := .ref a33_5) (ty := (.object "java/util/ArrayList")) hx hb hts inB_X10 tyX10 tyX10_ok nmX10 hown hK hw ma0 ha0 ((up2_n (by decide)).trans ((up2_n (by decide)).trans up2_eq)) rfl 5 (by decide) (hts _ w_f_X10_26) (fun _ h9 => h9) hin rfl rfl (by decide +kernel) rfl rfl (Nat.le_of_ble_eq_true rfl) dX10_init_48 (fun H locs hw => ?_)
  refine lv_aload_n hx hb dX10_init_51 rfl (lv_at hl 0 rfl) ?_
  refine k_new2 (C := RJx4a65c) (T := TJx4a65c) (N := 3) (ci := 2) (fs := [.int 0, .null, .int 0]) hx hb hts inB_Jx4a65c tyJx4a65c tyJx4a65c_ok hown (hts _ w_cl_X10_7) (hts _ w_is_Jx4a65c) (hts _ w_in_Jx4a65c) hK hw hA rfl (fun j hj => match j, hj with | 0, _ => rfl | 1, _ => rfl | 2, _ => rfl | n + 3, h => absurd h (by omega)) (Nat.le_of_ble_eq_true rfl) (Nat.le_of_ble_eq_true rfl) 34 0 n34 dX10_init_52 (fun u6 a34_6 H hE6 ha34_6 hw => ?_)
  have ha0 := (hE6 _ _ ma0).trans ha0
  have ha31_1 := (hE6 _ _ ma31_1).trans ha31_1
  have ha36_2 := (hE6 _ _ ma36_2).trans ha36_2
  have ha32_3 := (hE6 _ _ ma32_3).trans ha32_3
  have ha37_4 := (hE6 _ _ ma37_4).trans ha37_4
  have ha33_5 := (hE6 _ _ ma33_5).trans ha33_5
  have ma0 := List.mem_append_left [(34, 0)] ma0
  have ma31_1 := List.mem_append_left [(34, 0)] ma31_1
  have ma36_2 := List.mem_append_left [(34, 0)] ma36_2
  have ma32_3 := List.mem_append_left [(34, 0)] ma32_3
  have ma37_4 := List.mem_append_left [(34, 0)] ma37_4
  have ma33_5 := List.mem_append_left [(34, 0)] ma33_5
  have hX := Ex.tr hX hE6 hs
  have hs := fun i h => List.mem_append_left [(34, 0)] (hs i h)
  have ma34_6 := List.mem_append_right (L ++ [(31, 0)] ++ [(36, 0)] ++ [(32, 0)] ++ [(37, 0)] ++ [(33, 0)]) (List.mem_singleton_self (34, 0))
  have n35 := nmemf (g := 34) (p := 0) n35 (by decide)
  refine lv_dup hx hb dX10_init_55 rfl ?_
  have ct := ct_Jx4a65c_init_da8c8 (l := l) (D := D) (cI := cI) (cG := cG) (cJ := cJ) (cO := cO) (K0 := K0) (A := A) (L := L ++ [(31, 0)] ++ [(36, 0)] ++ [(32, 0)] ++ [(37, 0)] ++ [(33, 0)] ++ [(34, 0)]) (ad := u6) (ce := up2 (up2 (up2 (up2 (up2 (up2 (up2 (up2 (up2 (up2 (up2 (up2 (up2 (up2 ce 31 0 (.inr (2, [.int 0, .null, .int 0]))) 31 0 (.inr (2, [.int 0, .ref (K0 0), .int 0]))) 30 0 (.inr (13, [.int 0, .ref a31_1, .null, .null, .null, .null, .null, .null, .int 0]))) 36 0 (.inl (cI, 4, .inl (fun _ => 0)))) 30 0 (.inr (13, [.int 0, .ref a31_1, .ref a36_2, .null, .null, .null, .null, .null, .int 0]))) 32 0 (.inr (2, [.int 0, .null, .int 0]))) 32 0 (.inr (2, [.int 0, .ref (K0 0), .int 0]))) 30 0 (.inr (13, [.int 0, .ref a31_1, .ref a36_2, .ref a32_3, .null, .null, .null, .null, .int 0]))) 37 0 (.inl (cI, 4, .inl (fun _ => 0)))) 30 0 (.inr (13, [.int 0, .ref a31_1, .ref a36_2, .ref a32_3, .ref a37_4, .null, .null, .null, .int 0]))) 33 0 (.inr (2, [.int 0, .null, .int 0]))) 33 0 (.inr (2, [.int 0, .ref (K0 0), .int 0]))) 30 0 (.inr (13, [.int 0, .ref a31_1, .ref a36_2, .ref a32_3, .ref a37_4, .ref a33_5, .null, .null, .int 0]))) 34 0 (.inr (2, [.int 0, .null, .int 0]))) (f := 34) (o := 0) ma34_6 up2_eq _ (wk.hA hw hA)
  rw [ha34_6] at ct
  refine k_cv0 hw (k_rI (As := []) (rest := [.ref a34_6, .ref a0]) ⟨hx, hb, hml, hown, hts⟩ hK hO hw ct (cwI 0 hts (gB_0 w_co_Jx4a65c_init_da8c8) rfl rfl rfl (hts _ w_in_Jx4a65c) (hts _ w_ml_X10_9) (hts _ w_im_Jx4a65c_init_da8c8) rfl (by decide +kernel) ⟨by decide, by decide⟩) rfl hl.1 rfl (Nat.le_of_ble_eq_true rfl) dX10_init_56 ⟨Nat.le_of_ble_eq_true rfl, Nat.le_of_ble_eq_true rfl⟩) (fun H locs hw => ?_)
  refine k_putF2 (C := RX10) (T := TX10) (N := 9) (v := .ref a34_6) (ty := (.object "java/util/ArrayList")) hx hb hts inB_X10 tyX10 tyX10_ok nmX10 hown hK hw ma0 ha0 ((up2_n (by decide)).trans ((up2_n (by decide)).trans up2_eq)) rfl 6 (by decide) (hts _ w_f_X10_29) (fun _ h9 => h9) hin rfl rfl (by decide +kernel) rfl rfl (Nat.le_of_ble_eq_true rfl) dX10_init_59 (fun H locs hw => ?_)
  refine lv_aload_n hx hb dX10_init_62 rfl (lv_at hl 0 rfl) ?_
  refine k_new2 (C := RJx4a65c) (T := TJx4a65c) (N := 3) (ci := 2) (fs := [.int 0, .null, .int 0]) hx hb hts inB_Jx4a65c tyJx4a65c tyJx4a65c_ok hown (hts _ w_cl_X10_7) (hts _ w_is_Jx4a65c) (hts _ w_in_Jx4a65c) hK hw hA rfl (fun j hj => match j, hj with | 0, _ => rfl | 1, _ => rfl | 2, _ => rfl | n + 3, h => absurd h (by omega)) (Nat.le_of_ble_eq_true rfl) (Nat.le_of_ble_eq_true rfl) 35 0 n35 dX10_init_63 (fun u7 a35_7 H hE7 ha35_7 hw => ?_)
  have ha0 := (hE7 _ _ ma0).trans ha0
  have ha31_1 := (hE7 _ _ ma31_1).trans ha31_1
  have ha36_2 := (hE7 _ _ ma36_2).trans ha36_2
  have ha32_3 := (hE7 _ _ ma32_3).trans ha32_3
  have ha37_4 := (hE7 _ _ ma37_4).trans ha37_4
  have ha33_5 := (hE7 _ _ ma33_5).trans ha33_5
  have ha34_6 := (hE7 _ _ ma34_6).trans ha34_6
  have ma0 := List.mem_append_left [(35, 0)] ma0
  have ma31_1 := List.mem_append_left [(35, 0)] ma31_1
  have ma36_2 := List.mem_append_left [(35, 0)] ma36_2
  have ma32_3 := List.mem_append_left [(35, 0)] ma32_3
  have ma37_4 := List.mem_append_left [(35, 0)] ma37_4
  have ma33_5 := List.mem_append_left [(35, 0)] ma33_5
  have ma34_6 := List.mem_append_left [(35, 0)] ma34_6
  have hX := Ex.tr hX hE7 hs
  have hs := fun i h => List.mem_append_left [(35, 0)] (hs i h)
  have ma35_7 := List.mem_append_right (L ++ [(31, 0)] ++ [(36, 0)] ++ [(32, 0)] ++ [(37, 0)] ++ [(33, 0)] ++ [(34, 0)]) (List.mem_singleton_self (35, 0))
  refine lv_dup hx hb dX10_init_66 rfl ?_
  have ct := ct_Jx4a65c_init_da8c8 (l := l) (D := D) (cI := cI) (cG := cG) (cJ := cJ) (cO := cO) (K0 := K0) (A := A) (L := L ++ [(31, 0)] ++ [(36, 0)] ++ [(32, 0)] ++ [(37, 0)] ++ [(33, 0)] ++ [(34, 0)] ++ [(35, 0)]) (ad := u7) (ce := up2 (up2 (up2 (up2 (up2 (up2 (up2 (up2 (up2 (up2 (up2 (up2 (up2 (up2 (up2 (up2 (up2 ce 31 0 (.inr (2, [.int 0, .null, .int 0]))) 31 0 (.inr (2, [.int 0, .ref (K0 0), .int 0]))) 30 0 (.inr (13, [.int 0, .ref a31_1, .null, .null, .null, .null, .null, .null, .int 0]))) 36 0 (.inl (cI, 4, .inl (fun _ => 0)))) 30 0 (.inr (13, [.int 0, .ref a31_1, .ref a36_2, .null, .null, .null, .null, .null, .int 0]))) 32 0 (.inr (2, [.int 0, .null, .int 0]))) 32 0 (.inr (2, [.int 0, .ref (K0 0), .int 0]))) 30 0 (.inr (13, [.int 0, .ref a31_1, .ref a36_2, .ref a32_3, .null, .null, .null, .null, .int 0]))) 37 0 (.inl (cI, 4, .inl (fun _ => 0)))) 30 0 (.inr (13, [.int 0, .ref a31_1, .ref a36_2, .ref a32_3, .ref a37_4, .null, .null, .null, .int 0]))) 33 0 (.inr (2, [.int 0, .null, .int 0]))) 33 0 (.inr (2, [.int 0, .ref (K0 0), .int 0]))) 30 0 (.inr (13, [.int 0, .ref a31_1, .ref a36_2, .ref a32_3, .ref a37_4, .ref a33_5, .null, .null, .int 0]))) 34 0 (.inr (2, [.int 0, .null, .int 0]))) 34 0 (.inr (2, [.int 0, .ref (K0 0), .int 0]))) 30 0 (.inr (13, [.int 0, .ref a31_1, .ref a36_2, .ref a32_3, .ref a37_4, .ref a33_5, .ref a34_6, .null, .int 0]))) 35 0 (.inr (2, [.int 0, .null, .int 0]))) (f := 35) (o := 0) ma35_7 up2_eq _ (wk.hA hw hA)
  rw [ha35_7] at ct
  refine k_cv0 hw (k_rI (As := []) (rest := [.ref a35_7, .ref a0]) ⟨hx, hb, hml, hown, hts⟩ hK hO hw ct (cwI 0 hts (gB_0 w_co_Jx4a65c_init_da8c8) rfl rfl rfl (hts _ w_in_Jx4a65c) (hts _ w_ml_X10_9) (hts _ w_im_Jx4a65c_init_da8c8) rfl (by decide +kernel) ⟨by decide, by decide⟩) rfl hl.1 rfl (Nat.le_of_ble_eq_true rfl) dX10_init_67 ⟨Nat.le_of_ble_eq_true rfl, Nat.le_of_ble_eq_true rfl⟩) (fun H locs hw => ?_)
  refine k_putF2 (C := RX10) (T := TX10) (N := 9) (v := .ref a35_7) (ty := (.object "java/util/ArrayList")) hx hb hts inB_X10 tyX10 tyX10_ok nmX10 hown hK hw ma0 ha0 ((up2_n (by decide)).trans ((up2_n (by decide)).trans up2_eq)) rfl 7 (by decide) (hts _ w_f_X10_32) (fun _ h9 => h9) hin rfl rfl (by decide +kernel) rfl rfl (Nat.le_of_ble_eq_true rfl) dX10_init_70 (fun H locs hw => ?_)
  refine k_vretx hx hb hr hlocks hw hX ?_ (Nat.le_of_ble_eq_true rfl) (Nat.le_of_ble_eq_true rfl) dX10_init_73
  show mX cI cO K0 (fun _ => 0) M0 u7 ce [(30, 0), (31, 0), (36, 0), (32, 0), (37, 0), (33, 0), (34, 0), (35, 0)] = _
  funext f p
  unfold mX
  by_cases h : (f, p) ∈ ([(30, 0), (31, 0), (36, 0), (32, 0), (37, 0), (33, 0), (34, 0), (35, 0)] : List (Nat × Nat))
  · rw [if_pos h]
    simp only [List.mem_cons, List.not_mem_nil, or_false, Prod.mk.injEq] at h
    rcases h with ⟨rfl, rfl⟩ | ⟨rfl, rfl⟩ | ⟨rfl, rfl⟩ | ⟨rfl, rfl⟩ | ⟨rfl, rfl⟩ | ⟨rfl, rfl⟩ | ⟨rfl, rfl⟩ | ⟨rfl, rfl⟩
    · refine Eq.trans ?_ (up2_eq).symm
      rw [mc_30, ha31_1, ha36_2, ha32_3, ha37_4, ha33_5, ha34_6, ha35_7]
      all_goals rfl
    · refine Eq.trans ?_ (((up2_n (by decide)).trans ((up2_n (by decide)).trans ((up2_n (by decide)).trans ((up2_n (by decide)).trans ((up2_n (by decide)).trans ((up2_n (by decide)).trans ((up2_n (by decide)).trans ((up2_n (by decide)).trans ((up2_n (by decide)).trans ((up2_n (by decide)).trans ((up2_n (by decide)).trans ((up2_n (by decide)).trans ((up2_n (by decide)).trans ((up2_n (by decide)).trans ((up2_n (by decide)).trans ((up2_n (by decide)).trans ((up2_n (by decide)).trans up2_eq)))))))))))))))))).symm
      rfl
    · refine Eq.trans ?_ (((up2_n (by decide)).trans ((up2_n (by decide)).trans ((up2_n (by decide)).trans ((up2_n (by decide)).trans ((up2_n (by decide)).trans ((up2_n (by decide)).trans ((up2_n (by decide)).trans ((up2_n (by decide)).trans ((up2_n (by decide)).trans ((up2_n (by decide)).trans ((up2_n (by decide)).trans ((up2_n (by decide)).trans ((up2_n (by decide)).trans ((up2_n (by decide)).trans ((up2_n (by decide)).trans up2_eq)))))))))))))))).symm
      rfl
    · refine Eq.trans ?_ (((up2_n (by decide)).trans ((up2_n (by decide)).trans ((up2_n (by decide)).trans ((up2_n (by decide)).trans ((up2_n (by decide)).trans ((up2_n (by decide)).trans ((up2_n (by decide)).trans ((up2_n (by decide)).trans ((up2_n (by decide)).trans ((up2_n (by decide)).trans ((up2_n (by decide)).trans ((up2_n (by decide)).trans up2_eq))))))))))))).symm
      rfl
    · refine Eq.trans ?_ (((up2_n (by decide)).trans ((up2_n (by decide)).trans ((up2_n (by decide)).trans ((up2_n (by decide)).trans ((up2_n (by decide)).trans ((up2_n (by decide)).trans ((up2_n (by decide)).trans ((up2_n (by decide)).trans ((up2_n (by decide)).trans ((up2_n (by decide)).trans up2_eq))))))))))).symm
      rfl
    · refine Eq.trans ?_ (((up2_n (by decide)).trans ((up2_n (by decide)).trans ((up2_n (by decide)).trans ((up2_n (by decide)).trans ((up2_n (by decide)).trans ((up2_n (by decide)).trans ((up2_n (by decide)).trans up2_eq)))))))).symm
      rfl
    · refine Eq.trans ?_ (((up2_n (by decide)).trans ((up2_n (by decide)).trans ((up2_n (by decide)).trans ((up2_n (by decide)).trans up2_eq))))).symm
      rfl
    · refine Eq.trans ?_ (((up2_n (by decide)).trans up2_eq)).symm
      rfl
  · rw [if_neg h]
    have z31 : ¬ (f = 31 ∧ p = 0) := fun z => h (by rw [z.1, z.2]; simp)
    have z30 : ¬ (f = 30 ∧ p = 0) := fun z => h (by rw [z.1, z.2]; simp)
    have z36 : ¬ (f = 36 ∧ p = 0) := fun z => h (by rw [z.1, z.2]; simp)
    have z32 : ¬ (f = 32 ∧ p = 0) := fun z => h (by rw [z.1, z.2]; simp)
    have z37 : ¬ (f = 37 ∧ p = 0) := fun z => h (by rw [z.1, z.2]; simp)
    have z33 : ¬ (f = 33 ∧ p = 0) := fun z => h (by rw [z.1, z.2]; simp)
    have z34 : ¬ (f = 34 ∧ p = 0) := fun z => h (by rw [z.1, z.2]; simp)
    have z35 : ¬ (f = 35 ∧ p = 0) := fun z => h (by rw [z.1, z.2]; simp)
    exact ((up2_o z30).trans ((up2_o z35).trans ((up2_o z35).trans ((up2_o z30).trans ((up2_o z34).trans ((up2_o z34).trans ((up2_o z30).trans ((up2_o z33).trans ((up2_o z33).trans ((up2_o z30).trans ((up2_o z37).trans ((up2_o z30).trans ((up2_o z32).trans ((up2_o z32).trans ((up2_o z30).trans ((up2_o z36).trans ((up2_o z30).trans ((up2_o z31).trans ((up2_o z31).trans rfl))))))))))))))))))).symm
