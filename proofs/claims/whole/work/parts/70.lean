section LWR
variable {p : Program} {l : Launch} {e : Env} {R : Room} {s : State} {m : MethodId} {args : Array Value} {below : List Frame} {meth : Method} {c : Code} {H : Heap} {locs : List Loc} {cells slots : Nat} {Q : State → Prop} {cc : ByteArray} {pc : Nat} {ls : Array Slot} {rest st0 : List Value} {D : va_G} {A : Nat → Prop} {tys : List (ClassId × FieldType)} {K0 : Nat → Nat} {H0 : Heap} {L L' : List (Nat × Nat)} {ad ad' : Nat → Nat → Nat} {ce ce' : Nat → Nat → va_E} {cI cG cJ cO : ClassId} {mc ms : Nat}
theorem cK_ou {S : Nat → Nat → Nat → Int32} {f o : Nat} (h : 30 ≤ f) : cK cI cJ ad ce S f o = ce f o := by
  unfold cK
  exact if_neg (by omega)
theorem cK_out {S : Nat → Nat → Nat → Int32} {f o : Nat} {x : va_E} (h : 30 ≤ f) : up2 (cK cI cJ ad ce S) f o x = cK cI cJ ad (up2 ce f o x) S := by
  funext g p
  by_cases q : g = f ∧ p = o
  · obtain ⟨rfl, rfl⟩ := q
    rw [up2_eq, cK_ou h, up2_eq]
  · rw [up2_o q]
    by_cases q2 : 30 ≤ g
    · rw [cK_ou q2, cK_ou q2, up2_o q]
    · unfold cK
      rw [up2_o q]
theorem k_last (hx : p.tables.exec = Jvm.exec) (hb : c.code = cc) (hK : va_K D vwCl tys s) (hw : wk D A L ad ce H0 H locs) {f o : Nat} (hi : (f, o) ∈ L) (t0 : Nat) {cA : ClassId} {n : Nat} {g : Nat → Int64} (he : ce f o = .inl (cA, n, .inr (.inl g))) (ht : tys[t0]? = some (cA, .long)) {i : Int32} {x : Int64} (hin : vp_in i n) {ce' : Nat → Nat → va_E} (hce : up2 ce f o (.inl (cA, n, .inr (.inl (vp_updL g i.toNatClampNeg x)))) = ce') (hdg : decode cc pc = .ok (.lastore, 1))
    (kk : ∀ (H1 : Heap) (locs1 : List Loc), wk D A L ad ce' H0 H1 locs1 → W p l e R s m args below meth c H1 locs1 cells slots Q (F0 m (pc + 1) ls rest)) : W p l e R s m args below meth c H locs cells slots Q (F0 m pc ls (.long x :: .int i :: .ref (ad f o) :: rest)) := by
  obtain ⟨q, hq⟩ := wl_in hi
  subst hce
  refine va_last hx hb hK hw.1 hw.2.1 hw.2.2 q t0 ((wl_at hq).trans (by rw [he])) ht hin hdg (fun H1 locs1 h1 h2 h3 => kk H1 locs1 ⟨?_, ?_, h3⟩)
  · rw [wl_set hw.2.1 hq] at h1; exact h1
  · rw [wl_set hw.2.1 hq] at h2; exact h2
/-- what a call leaves: the store, the row for its answer -/
def wS (k : Nat) (S S' : Nat → Nat → Nat → Int32) : Nat → Nat → Nat → Int32 := if k = 0 then S' else S
def wg (k : Nat) (v : Int32) (g : Nat → Int64) : Nat → Int64 := if k = 0 then vp_updL g 0 v.toInt64 else g
theorem k_iretW {v v0 : Int32} {ty : FieldType} {ce' : Nat → Nat → va_E} (hx : p.tables.exec = Jvm.exec) (hb : c.code = cc) (hr : meth.sig.returnType = some ty) (hlocks : meth.locks = false) (hn : narrow ty (.int v) = .int v) (hw : wk D A L ad ce s.heap H locs) (hv : v0 = v) (hce : ce' = ce) (hc : cells ≤ mc) (hs : slots ≤ ms) (hdg : decode cc pc = .ok (.ireturn, 1)) : W p l e R s m args below meth c H locs cells slots (MQ below (kQi D A v0 L ad ce') args s mc ms A) (F0 m pc ls [.int v]) :=
  W.widen hc hs (k_iret hx hb hr hlocks hn hw hv hce hdg)
theorem out_same {S : Nat → Nat → Nat → Int32} {g : Nat → Int64} (h : ce 90 0 = .inl (cG, 1, .inr (.inl g))) : cK cI cJ ad (up2 ce 90 0 (.inl (cG, 1, .inr (.inl g)))) S = cK cI cJ ad ce S := by rw [up2_same h]
end LWR

theorem cd_joinerAt_2 (S : (Nat → Nat → Nat → Int32)) (p : Int32) : ¬ (sp_X5_joinerAt S p).1 = 2 := by
  unfold sp_X5_joinerAt
  repeat' split
  all_goals first | exact (by decide : ¬ (0 : Nat) = 2) | exact (by decide : ¬ (1 : Nat) = 2) | exact (by decide : ¬ (3 : Nat) = 2)
theorem cd_joinerAt_3 (S : (Nat → Nat → Nat → Int32)) (p : Int32) : ¬ (sp_X5_joinerAt S p).1 = 3 := by
  unfold sp_X5_joinerAt
  repeat' split
  all_goals first | exact (by decide : ¬ (0 : Nat) = 3) | exact (by decide : ¬ (1 : Nat) = 3) | exact (by decide : ¬ (2 : Nat) = 3)

def wc_step (k : Nat) : Int32 := if k = 2 then 1 else if k = 3 then 2 else 0
abbrev bw_L_step : List Cond := .codeWith yL_step cL_step 7 (some .int) [(0, 14, 17, 13), (0, 14, 21, 15)] :: BIG
abbrev rm_L_step : Room := { frames := 7, cells := 2, slots := 12, locals := 115 }
theorem cd_step_1 (S : (Nat → Nat → Nat → Int32)) (p1 : Int32) (p2 : Int32) (p3 : Int32) (p4 : Int32) : ¬ (sp_X5_step S p1 p2 p3 p4).1 = 1 := by
  rw [un_X5_step]
  unfold rw_X5_step
  repeat' split
  all_goals first | exact (by decide : ¬ (0 : Nat) = 1) | exact (by decide : ¬ (2 : Nat) = 1) | exact (by decide : ¬ (3 : Nat) = 1)
set_option maxHeartbeats 1000000 in
theorem ct_L_step {l : Launch} {D : va_G} {cI cG cJ cO : ClassId} {K0 : Nat → Nat} {A : Nat → Prop} {L : List (Nat × Nat)} {ad : Nat → Nat → Nat} {ce : Nat → Nat → va_E} (hL : ∀ f o, cid f o = true → (f, o) ∈ L) (S : (Nat → Nat → Nat → Int32)) (hI : CI S) (p1 : Int32) (p2 : Int32) (p3 : Int32) (p4 : Int32) (hst : l.stackTraces = false) {g : Nat → Int64} (hm : (90, 0) ∈ L) (ho : ce 90 0 = .inl (cG, 1, .inr (.inl g))) (sz : Nat) (hA : ∀ q, sz ≤ q → A q) : Met l yL_step bw_L_step rm_L_step (kP D (ktys cI cG cJ cO) K0 A L ad (cK cI cJ ad ce S) sz [.ref (ad 0 0), .int p1, .int p2, .int p3, .int p4, .ref (ad 90 0)]) (kQi D A (wc_step (sp_X5_step S p1 p2 p3 p4).1) L ad (cK cI cJ ad (up2 ce 90 0 (.inl (cG, 1, .inr (.inl (wg (sp_X5_step S p1 p2 p3 p4).1 (sp_X5_step S p1 p2 p3 p4).2.1 g))))) (wS (sp_X5_step S p1 p2 p3 p4).1 S (sp_X5_step S p1 p2 p3 p4).2.2))) 2 12 A := by
  refine va_MetW (cc := cL_step) (maxL := 7) (ret := some .int) (hh := [(0, 14, 17, 13), (0, 14, 21, 15)]) (by decide) rfl ?_
  intro p e s m args below meth c s₁ B hml hv
  obtain ⟨hav, hsz, hP, hD, hK, hO⟩ := hv
  have hx := B.exec
  have hb := B.bytes
  have hr := B.returns
  have hts : ∀ w ∈ BIG, w.before args s = true := fun w h => atoms_spec (ws := bw_L_step) B.pre w (List.mem_cons_of_mem _ h)
  have htab := vx_table (x := yL_step) B (atoms_spec (ws := bw_L_step) B.pre _ List.mem_cons_self)
  have hown : s.vm.findClass RL = some m.cls := findClass_of_methodNamed B.named
  have hlocks := B.notSynchronized
  subst hsz
  have hw := wk.start hP hD
  refine k_start (by rfl) hav (Nat.le_of_ble_eq_true rfl) (fun ls hl => ?_)
  have hl : lv_has ls 7 [(0, .ref (ad 0 0)), (1, .int p1), (2, .int p2), (3, .int p3), (4, .int p4), (5, .ref (ad 90 0))] := hl
  refine lv_aload hx hb dL_step_0 (lv_at hl 5 rfl) ?_
  refine lv_iconst (v := 0) hx hb dL_step_2 (by decide) ?_
  refine lv_aload_n hx hb dL_step_3 rfl (lv_at hl 0 rfl) ?_
  refine lv_iload_n hx hb dL_step_4 rfl (lv_at hl 1 rfl) ?_
  refine lv_iload_n hx hb dL_step_5 rfl (lv_at hl 2 rfl) ?_
  refine lv_iload_n hx hb dL_step_6 rfl (lv_at hl 3 rfl) ?_
  refine lv_iload hx hb dL_step_7 (lv_at hl 4 rfl) ?_
  refine x_ci hw (x_rV (f := 0) (o := 0) (As := [.int p1, .int p2, .int p3, .int p4]) (rest := [.int 0, .ref (ad 90 0)]) ⟨hx, hb, hml, hown, hts⟩ hK hO hw (ct_X5_step hL S hI p1 p2 p3 p4 hst _ (wk.hA hw hA)) (cwV 4 hts (gB_V w_ml_L_7 w_im_X5_step w_se_X5_step w_in_X5 w_co_X5_step) rfl rfl rfl (by decide +kernel) ⟨Nat.le_of_ble_eq_true rfl, Nat.le_of_ble_eq_true rfl⟩) (hL 0 0 rfl) cke_0 rfl rfl hl.1 rfl (Nat.le_of_ble_eq_true rfl) dL_step_9 ⟨Nat.le_of_ble_eq_true rfl, Nat.le_of_ble_eq_true rfl⟩) (fun E cx q9 H locs hx9 hw hcx hvx hclx => ?_) (fun H locs hc0 hw => ?_)
  · rcases hx9 with ⟨hk, rfl⟩ | ⟨hk, rfl⟩ | ⟨hk, rfl⟩
    · exact absurd hk (cd_step_1 S p1 p2 p3 p4)
    · refine vx_catch hown (name := "java/lang/IllegalArgumentException") [] ⟨0, 14, 17, 13⟩ [⟨0, 14, 21, 15⟩] (htab.trans rfl) (fun z hz => nomatch hz) (by decide) (by decide) (hts _ w_cl_L_13) ((hO.2.2.1 _ w_cc_2).use rfl) hcx hvx hclx ?_
      refine lv_astore (lv' := [(6, .ref q9), (0, .ref (ad 0 0)), (1, .int p1), (2, .int p2), (3, .int p3), (4, .int p4), (5, .ref (ad 90 0))]) hx hb dL_step_17 hl (by decide) rfl (fun ls hl => ?_)
      refine lv_iconst (v := 1) hx hb dL_step_19 (by decide) ?_
      refine k_iretW hx hb hr hlocks rfl hw (by rw [hk]; rfl) ?_ (Nat.le_of_ble_eq_true rfl) (Nat.le_of_ble_eq_true rfl) dL_step_20
      rw [hk]
      exact out_same ho
    · refine vx_catch hown (name := "java/lang/IllegalStateException") [⟨0, 14, 17, 13⟩] ⟨0, 14, 21, 15⟩ [] (htab.trans rfl) (fun z hz => by
        simp only [List.mem_cons, List.not_mem_nil, or_false] at hz
        rcases hz with rfl
        · exact Or.inr ⟨by decide, "java/lang/IllegalArgumentException", hts _ w_cl_L_13, hO.2.2.2.2.2.2.2 ("java/lang/IllegalStateException", "java/lang/IllegalArgumentException") (by decide)⟩
      ) (by decide) (by decide) (hts _ w_cl_L_15) ((hO.2.2.1 _ w_cc_3).use rfl) hcx hvx hclx ?_
      refine lv_astore (lv' := [(6, .ref q9), (0, .ref (ad 0 0)), (1, .int p1), (2, .int p2), (3, .int p3), (4, .int p4), (5, .ref (ad 90 0))]) hx hb dL_step_21 hl (by decide) rfl (fun ls hl => ?_)
      refine lv_iconst (v := 2) hx hb dL_step_23 (by decide) ?_
      refine k_iretW hx hb hr hlocks rfl hw (by rw [hk]; rfl) ?_ (Nat.le_of_ble_eq_true rfl) (Nat.le_of_ble_eq_true rfl) dL_step_24
      rw [hk]
      exact out_same ho
  · refine lv_i2l (v := (sp_X5_step S p1 p2 p3 p4).2.1.toInt64) hx hb dL_step_12 rfl ?_
    refine k_last hx hb hK hw hm 1 ((cK_ou (by decide)).trans ho) rfl (vp_in_nI (n := 0) (N := 1) (by decide) (by decide)) (cK_out (by decide)) dL_step_13 (fun H locs hw => ?_)
    refine lv_goto (tgt := 25) hx hb dL_step_14 (by decide) ?_
    refine lv_iconst (v := 0) hx hb dL_step_25 (by decide) ?_
    refine k_iretW hx hb hr hlocks rfl hw (by rw [hc0]; rfl) ?_ (Nat.le_of_ble_eq_true rfl) (Nat.le_of_ble_eq_true rfl) dL_step_26
    rw [hc0]
    rfl

def wc_role (k : Nat) : Int32 := if k = 1 then 1 else if k = 2 then 2 else 0
abbrev bw_L_role : List Cond := .codeWith yL_role cL_role 5 (some .int) [(0, 10, 13, 21), (0, 10, 17, 13)] :: BIG
abbrev rm_L_role : Room := { frames := 7, cells := 2, slots := 12, locals := 113 }
theorem cd_role_3 (S : (Nat → Nat → Nat → Int32)) (p1 : Int32) (p2 : Int32) : ¬ (sp_X5_role S p1 p2).1 = 3 := by
  rw [un_X5_role]
  unfold rw_X5_role
  repeat' split
  all_goals first | exact (by decide : ¬ (0 : Nat) = 3) | exact (by decide : ¬ (1 : Nat) = 3) | exact (by decide : ¬ (2 : Nat) = 3) | exact cd_joinerAt_3 _ _
set_option maxHeartbeats 1000000 in
theorem ct_L_role {l : Launch} {D : va_G} {cI cG cJ cO : ClassId} {K0 : Nat → Nat} {A : Nat → Prop} {L : List (Nat × Nat)} {ad : Nat → Nat → Nat} {ce : Nat → Nat → va_E} (hL : ∀ f o, cid f o = true → (f, o) ∈ L) (S : (Nat → Nat → Nat → Int32)) (hI : CI S) (p1 : Int32) (p2 : Int32) (hst : l.stackTraces = false) {g : Nat → Int64} (hm : (90, 0) ∈ L) (ho : ce 90 0 = .inl (cG, 1, .inr (.inl g))) (sz : Nat) (hA : ∀ q, sz ≤ q → A q) : Met l yL_role bw_L_role rm_L_role (kP D (ktys cI cG cJ cO) K0 A L ad (cK cI cJ ad ce S) sz [.ref (ad 0 0), .int p1, .int p2, .ref (ad 90 0)]) (kQi D A (wc_role (sp_X5_role S p1 p2).1) L ad (cK cI cJ ad (up2 ce 90 0 (.inl (cG, 1, .inr (.inl (wg (sp_X5_role S p1 p2).1 (sp_X5_role S p1 p2).2.1 g))))) (wS (sp_X5_role S p1 p2).1 S (sp_X5_role S p1 p2).2.2))) 2 12 A := by
  refine va_MetW (cc := cL_role) (maxL := 5) (ret := some .int) (hh := [(0, 10, 13, 21), (0, 10, 17, 13)]) (by decide) rfl ?_
  intro p e s m args below meth c s₁ B hml hv
  obtain ⟨hav, hsz, hP, hD, hK, hO⟩ := hv
  have hx := B.exec
  have hb := B.bytes
  have hr := B.returns
  have hts : ∀ w ∈ BIG, w.before args s = true := fun w h => atoms_spec (ws := bw_L_role) B.pre w (List.mem_cons_of_mem _ h)
  have htab := vx_table (x := yL_role) B (atoms_spec (ws := bw_L_role) B.pre _ List.mem_cons_self)
  have hown : s.vm.findClass RL = some m.cls := findClass_of_methodNamed B.named
  have hlocks := B.notSynchronized
  subst hsz
  have hw := wk.start hP hD
  refine k_start (by rfl) hav (Nat.le_of_ble_eq_true rfl) (fun ls hl => ?_)
  have hl : lv_has ls 5 [(0, .ref (ad 0 0)), (1, .int p1), (2, .int p2), (3, .ref (ad 90 0))] := hl
  refine lv_aload_n hx hb dL_role_0 rfl (lv_at hl 3 rfl) ?_
  refine lv_iconst (v := 0) hx hb dL_role_1 (by decide) ?_
  refine lv_aload_n hx hb dL_role_2 rfl (lv_at hl 0 rfl) ?_
  refine lv_iload_n hx hb dL_role_3 rfl (lv_at hl 1 rfl) ?_
  refine lv_iload_n hx hb dL_role_4 rfl (lv_at hl 2 rfl) ?_
  refine x_ci hw (x_rV (f := 0) (o := 0) (As := [.int p1, .int p2]) (rest := [.int 0, .ref (ad 90 0)]) ⟨hx, hb, hml, hown, hts⟩ hK hO hw (ct_X5_role hL S hI p1 p2 hst _ (wk.hA hw hA)) (cwV 2 hts (gB_V w_ml_L_17 w_im_X5_role w_se_X5_role w_in_X5 w_co_X5_role) rfl rfl rfl (by decide +kernel) ⟨Nat.le_of_ble_eq_true rfl, Nat.le_of_ble_eq_true rfl⟩) (hL 0 0 rfl) cke_0 rfl rfl hl.1 rfl (Nat.le_of_ble_eq_true rfl) dL_role_5 ⟨Nat.le_of_ble_eq_true rfl, Nat.le_of_ble_eq_true rfl⟩) (fun E cx q9 H locs hx9 hw hcx hvx hclx => ?_) (fun H locs hc0 hw => ?_)
  · rcases hx9 with ⟨hk, rfl⟩ | ⟨hk, rfl⟩ | ⟨hk, rfl⟩
    · refine vx_catch hown (name := "java/lang/IndexOutOfBoundsException") [] ⟨0, 10, 13, 21⟩ [⟨0, 10, 17, 13⟩] (htab.trans rfl) (fun z hz => nomatch hz) (by decide) (by decide) (hts _ w_cl_L_21) ((hO.2.2.1 _ w_cc_1).use rfl) hcx hvx hclx ?_
      refine lv_astore (lv' := [(4, .ref q9), (0, .ref (ad 0 0)), (1, .int p1), (2, .int p2), (3, .ref (ad 90 0))]) hx hb dL_role_13 hl (by decide) rfl (fun ls hl => ?_)
      refine lv_iconst (v := 1) hx hb dL_role_15 (by decide) ?_
      refine k_iretW hx hb hr hlocks rfl hw (by rw [hk]; rfl) ?_ (Nat.le_of_ble_eq_true rfl) (Nat.le_of_ble_eq_true rfl) dL_role_16
      rw [hk]
      exact out_same ho
    · refine vx_catch hown (name := "java/lang/IllegalArgumentException") [⟨0, 10, 13, 21⟩] ⟨0, 10, 17, 13⟩ [] (htab.trans rfl) (fun z hz => by
        simp only [List.mem_cons, List.not_mem_nil, or_false] at hz
        rcases hz with rfl
        · exact Or.inr ⟨by decide, "java/lang/IndexOutOfBoundsException", hts _ w_cl_L_21, hO.2.2.2.2.2.2.2 ("java/lang/IllegalArgumentException", "java/lang/IndexOutOfBoundsException") (by decide)⟩
      ) (by decide) (by decide) (hts _ w_cl_L_13) ((hO.2.2.1 _ w_cc_2).use rfl) hcx hvx hclx ?_
      refine lv_astore (lv' := [(4, .ref q9), (0, .ref (ad 0 0)), (1, .int p1), (2, .int p2), (3, .ref (ad 90 0))]) hx hb dL_role_17 hl (by decide) rfl (fun ls hl => ?_)
      refine lv_iconst (v := 2) hx hb dL_role_19 (by decide) ?_
      refine k_iretW hx hb hr hlocks rfl hw (by rw [hk]; rfl) ?_ (Nat.le_of_ble_eq_true rfl) (Nat.le_of_ble_eq_true rfl) dL_role_20
      rw [hk]
      exact out_same ho
    · exact absurd hk (cd_role_3 S p1 p2)
  · refine lv_i2l (v := (sp_X5_role S p1 p2).2.1.toInt64) hx hb dL_role_8 rfl ?_
    refine k_last hx hb hK hw hm 1 ((cK_ou (by decide)).trans ho) rfl (vp_in_nI (n := 0) (N := 1) (by decide) (by decide)) (cK_out (by decide)) dL_role_9 (fun H locs hw => ?_)
    refine lv_goto (tgt := 21) hx hb dL_role_10 (by decide) ?_
    refine lv_iconst (v := 0) hx hb dL_role_21 (by decide) ?_
    refine k_iretW hx hb hr hlocks rfl hw (by rw [hc0]; rfl) ?_ (Nat.le_of_ble_eq_true rfl) (Nat.le_of_ble_eq_true rfl) dL_role_22
    rw [hc0]
    rfl

def wc_right (k : Nat) : Int32 := if k = 2 then 1 else if k = 3 then 2 else 0
abbrev bw_L_right : List Cond := .codeWith yL_right cL_right 4 (some .int) [(0, 9, 12, 13), (0, 9, 15, 15)] :: BIG
abbrev rm_L_right : Room := { frames := 7, cells := 2, slots := 12, locals := 112 }
theorem cd_right_1 (S : (Nat → Nat → Nat → Int32)) (p1 : Int32) : ¬ (sp_X5_right S p1).1 = 1 := by
  rw [un_X5_right]
  unfold rw_X5_right
  repeat' split
  all_goals first | exact (by decide : ¬ (0 : Nat) = 1) | exact (by decide : ¬ (2 : Nat) = 1) | exact (by decide : ¬ (3 : Nat) = 1)
set_option maxHeartbeats 1000000 in
theorem ct_L_right {l : Launch} {D : va_G} {cI cG cJ cO : ClassId} {K0 : Nat → Nat} {A : Nat → Prop} {L : List (Nat × Nat)} {ad : Nat → Nat → Nat} {ce : Nat → Nat → va_E} (hL : ∀ f o, cid f o = true → (f, o) ∈ L) (S : (Nat → Nat → Nat → Int32)) (hI : CI S) (p1 : Int32) (hst : l.stackTraces = false) {g : Nat → Int64} (hm : (90, 0) ∈ L) (ho : ce 90 0 = .inl (cG, 1, .inr (.inl g))) (sz : Nat) (hA : ∀ q, sz ≤ q → A q) : Met l yL_right bw_L_right rm_L_right (kP D (ktys cI cG cJ cO) K0 A L ad (cK cI cJ ad ce S) sz [.ref (ad 0 0), .int p1, .ref (ad 90 0)]) (kQi D A (wc_right (sp_X5_right S p1).1) L ad (cK cI cJ ad (up2 ce 90 0 (.inl (cG, 1, .inr (.inl (wg (sp_X5_right S p1).1 (sp_X5_right S p1).2.1 g))))) (wS (sp_X5_right S p1).1 S (sp_X5_right S p1).2.2))) 2 12 A := by
  refine va_MetW (cc := cL_right) (maxL := 4) (ret := some .int) (hh := [(0, 9, 12, 13), (0, 9, 15, 15)]) (by decide) rfl ?_
  intro p e s m args below meth c s₁ B hml hv
  obtain ⟨hav, hsz, hP, hD, hK, hO⟩ := hv
  have hx := B.exec
  have hb := B.bytes
  have hr := B.returns
  have hts : ∀ w ∈ BIG, w.before args s = true := fun w h => atoms_spec (ws := bw_L_right) B.pre w (List.mem_cons_of_mem _ h)
  have htab := vx_table (x := yL_right) B (atoms_spec (ws := bw_L_right) B.pre _ List.mem_cons_self)
  have hown : s.vm.findClass RL = some m.cls := findClass_of_methodNamed B.named
  have hlocks := B.notSynchronized
  subst hsz
  have hw := wk.start hP hD
  refine k_start (by rfl) hav (Nat.le_of_ble_eq_true rfl) (fun ls hl => ?_)
  have hl : lv_has ls 4 [(0, .ref (ad 0 0)), (1, .int p1), (2, .ref (ad 90 0))] := hl
  refine lv_aload_n hx hb dL_right_0 rfl (lv_at hl 2 rfl) ?_
  refine lv_iconst (v := 0) hx hb dL_right_1 (by decide) ?_
  refine lv_aload_n hx hb dL_right_2 rfl (lv_at hl 0 rfl) ?_
  refine lv_iload_n hx hb dL_right_3 rfl (lv_at hl 1 rfl) ?_
  refine x_ci hw (x_rV (f := 0) (o := 0) (As := [.int p1]) (rest := [.int 0, .ref (ad 90 0)]) ⟨hx, hb, hml, hown, hts⟩ hK hO hw (ct_X5_right hL S hI p1 hst _ (wk.hA hw hA)) (cwV 1 hts (gB_V w_ml_L_23 w_im_X5_right w_se_X5_right w_in_X5 w_co_X5_right) rfl rfl rfl (by decide +kernel) ⟨Nat.le_of_ble_eq_true rfl, Nat.le_of_ble_eq_true rfl⟩) (hL 0 0 rfl) cke_0 rfl rfl hl.1 rfl (Nat.le_of_ble_eq_true rfl) dL_right_4 ⟨Nat.le_of_ble_eq_true rfl, Nat.le_of_ble_eq_true rfl⟩) (fun E cx q9 H locs hx9 hw hcx hvx hclx => ?_) (fun H locs hc0 hw => ?_)
  · rcases hx9 with ⟨hk, rfl⟩ | ⟨hk, rfl⟩ | ⟨hk, rfl⟩
    · exact absurd hk (cd_right_1 S p1)
    · refine vx_catch hown (name := "java/lang/IllegalArgumentException") [] ⟨0, 9, 12, 13⟩ [⟨0, 9, 15, 15⟩] (htab.trans rfl) (fun z hz => nomatch hz) (by decide) (by decide) (hts _ w_cl_L_13) ((hO.2.2.1 _ w_cc_2).use rfl) hcx hvx hclx ?_
      refine lv_astore_n (lv' := [(3, .ref q9), (0, .ref (ad 0 0)), (1, .int p1), (2, .ref (ad 90 0))]) hx hb dL_right_12 rfl hl (by decide) rfl (fun ls hl => ?_)
      refine lv_iconst (v := 1) hx hb dL_right_13 (by decide) ?_
      refine k_iretW hx hb hr hlocks rfl hw (by rw [hk]; rfl) ?_ (Nat.le_of_ble_eq_true rfl) (Nat.le_of_ble_eq_true rfl) dL_right_14
      rw [hk]
      exact out_same ho
    · refine vx_catch hown (name := "java/lang/IllegalStateException") [⟨0, 9, 12, 13⟩] ⟨0, 9, 15, 15⟩ [] (htab.trans rfl) (fun z hz => by
        simp only [List.mem_cons, List.not_mem_nil, or_false] at hz
        rcases hz with rfl
        · exact Or.inr ⟨by decide, "java/lang/IllegalArgumentException", hts _ w_cl_L_13, hO.2.2.2.2.2.2.2 ("java/lang/IllegalStateException", "java/lang/IllegalArgumentException") (by decide)⟩
      ) (by decide) (by decide) (hts _ w_cl_L_15) ((hO.2.2.1 _ w_cc_3).use rfl) hcx hvx hclx ?_
      refine lv_astore_n (lv' := [(3, .ref q9), (0, .ref (ad 0 0)), (1, .int p1), (2, .ref (ad 90 0))]) hx hb dL_right_15 rfl hl (by decide) rfl (fun ls hl => ?_)
      refine lv_iconst (v := 2) hx hb dL_right_16 (by decide) ?_
      refine k_iretW hx hb hr hlocks rfl hw (by rw [hk]; rfl) ?_ (Nat.le_of_ble_eq_true rfl) (Nat.le_of_ble_eq_true rfl) dL_right_17
      rw [hk]
      exact out_same ho
  · refine lv_i2l (v := (sp_X5_right S p1).2.1.toInt64) hx hb dL_right_7 rfl ?_
    refine k_last hx hb hK hw hm 1 ((cK_ou (by decide)).trans ho) rfl (vp_in_nI (n := 0) (N := 1) (by decide) (by decide)) (cK_out (by decide)) dL_right_8 (fun H locs hw => ?_)
    refine lv_goto (tgt := 18) hx hb dL_right_9 (by decide) ?_
    refine lv_iconst (v := 0) hx hb dL_right_18 (by decide) ?_
    refine k_iretW hx hb hr hlocks rfl hw (by rw [hc0]; rfl) ?_ (Nat.le_of_ble_eq_true rfl) (Nat.le_of_ble_eq_true rfl) dL_right_19
    rw [hc0]
    rfl

def wc_stock (k : Nat) : Int32 := if k = 1 then 1 else if k = 2 then 2 else 0
abbrev bw_L_stock : List Cond := .codeWith yL_stock cL_stock 5 (some .int) [(0, 10, 13, 21), (0, 10, 17, 13)] :: BIG
abbrev rm_L_stock : Room := { frames := 7, cells := 2, slots := 12, locals := 112 }
theorem cd_stock_3 (S : (Nat → Nat → Nat → Int32)) (p1 : Int32) (p2 : Int32) : ¬ (sp_X5_stock S p1 p2).1 = 3 := by
  rw [un_X5_stock]
  unfold rw_X5_stock
  repeat' split
  all_goals first | exact (by decide : ¬ (0 : Nat) = 3) | exact (by decide : ¬ (1 : Nat) = 3) | exact (by decide : ¬ (2 : Nat) = 3) | exact cd_joinerAt_3 _ _
set_option maxHeartbeats 1000000 in
theorem ct_L_stock {l : Launch} {D : va_G} {cI cG cJ cO : ClassId} {K0 : Nat → Nat} {A : Nat → Prop} {L : List (Nat × Nat)} {ad : Nat → Nat → Nat} {ce : Nat → Nat → va_E} (hL : ∀ f o, cid f o = true → (f, o) ∈ L) (S : (Nat → Nat → Nat → Int32)) (hI : CI S) (p1 : Int32) (p2 : Int32) (hst : l.stackTraces = false) {g : Nat → Int64} (hm : (90, 0) ∈ L) (ho : ce 90 0 = .inl (cG, 1, .inr (.inl g))) (sz : Nat) (hA : ∀ q, sz ≤ q → A q) : Met l yL_stock bw_L_stock rm_L_stock (kP D (ktys cI cG cJ cO) K0 A L ad (cK cI cJ ad ce S) sz [.ref (ad 0 0), .int p1, .int p2, .ref (ad 90 0)]) (kQi D A (wc_stock (sp_X5_stock S p1 p2).1) L ad (cK cI cJ ad (up2 ce 90 0 (.inl (cG, 1, .inr (.inl (wg (sp_X5_stock S p1 p2).1 (sp_X5_stock S p1 p2).2.1 g))))) (wS (sp_X5_stock S p1 p2).1 S (sp_X5_stock S p1 p2).2.2))) 2 12 A := by
  refine va_MetW (cc := cL_stock) (maxL := 5) (ret := some .int) (hh := [(0, 10, 13, 21), (0, 10, 17, 13)]) (by decide) rfl ?_
  intro p e s m args below meth c s₁ B hml hv
  obtain ⟨hav, hsz, hP, hD, hK, hO⟩ := hv
  have hx := B.exec
  have hb := B.bytes
  have hr := B.returns
  have hts : ∀ w ∈ BIG, w.before args s = true := fun w h => atoms_spec (ws := bw_L_stock) B.pre w (List.mem_cons_of_mem _ h)
  have htab := vx_table (x := yL_stock) B (atoms_spec (ws := bw_L_stock) B.pre _ List.mem_cons_self)
  have hown : s.vm.findClass RL = some m.cls := findClass_of_methodNamed B.named
  have hlocks := B.notSynchronized
  subst hsz
  have hw := wk.start hP hD
  refine k_start (by rfl) hav (Nat.le_of_ble_eq_true rfl) (fun ls hl => ?_)
  have hl : lv_has ls 5 [(0, .ref (ad 0 0)), (1, .int p1), (2, .int p2), (3, .ref (ad 90 0))] := hl
  refine lv_aload_n hx hb dL_stock_0 rfl (lv_at hl 3 rfl) ?_
  refine lv_iconst (v := 0) hx hb dL_stock_1 (by decide) ?_
  refine lv_aload_n hx hb dL_stock_2 rfl (lv_at hl 0 rfl) ?_
  refine lv_iload_n hx hb dL_stock_3 rfl (lv_at hl 1 rfl) ?_
  refine lv_iload_n hx hb dL_stock_4 rfl (lv_at hl 2 rfl) ?_
  refine x_ci hw (x_rV (f := 0) (o := 0) (As := [.int p1, .int p2]) (rest := [.int 0, .ref (ad 90 0)]) ⟨hx, hb, hml, hown, hts⟩ hK hO hw (ct_X5_stock hL S hI p1 p2 hst _ (wk.hA hw hA)) (cwV 2 hts (gB_V w_ml_L_27 w_im_X5_stock w_se_X5_stock w_in_X5 w_co_X5_stock) rfl rfl rfl (by decide +kernel) ⟨Nat.le_of_ble_eq_true rfl, Nat.le_of_ble_eq_true rfl⟩) (hL 0 0 rfl) cke_0 rfl rfl hl.1 rfl (Nat.le_of_ble_eq_true rfl) dL_stock_5 ⟨Nat.le_of_ble_eq_true rfl, Nat.le_of_ble_eq_true rfl⟩) (fun E cx q9 H locs hx9 hw hcx hvx hclx => ?_) (fun H locs hc0 hw => ?_)
  · rcases hx9 with ⟨hk, rfl⟩ | ⟨hk, rfl⟩ | ⟨hk, rfl⟩
    · refine vx_catch hown (name := "java/lang/IndexOutOfBoundsException") [] ⟨0, 10, 13, 21⟩ [⟨0, 10, 17, 13⟩] (htab.trans rfl) (fun z hz => nomatch hz) (by decide) (by decide) (hts _ w_cl_L_21) ((hO.2.2.1 _ w_cc_1).use rfl) hcx hvx hclx ?_
      refine lv_astore (lv' := [(4, .ref q9), (0, .ref (ad 0 0)), (1, .int p1), (2, .int p2), (3, .ref (ad 90 0))]) hx hb dL_stock_13 hl (by decide) rfl (fun ls hl => ?_)
      refine lv_iconst (v := 1) hx hb dL_stock_15 (by decide) ?_
      refine k_iretW hx hb hr hlocks rfl hw (by rw [hk]; rfl) ?_ (Nat.le_of_ble_eq_true rfl) (Nat.le_of_ble_eq_true rfl) dL_stock_16
      rw [hk]
      exact out_same ho
    · refine vx_catch hown (name := "java/lang/IllegalArgumentException") [⟨0, 10, 13, 21⟩] ⟨0, 10, 17, 13⟩ [] (htab.trans rfl) (fun z hz => by
        simp only [List.mem_cons, List.not_mem_nil, or_false] at hz
        rcases hz with rfl
        · exact Or.inr ⟨by decide, "java/lang/IndexOutOfBoundsException", hts _ w_cl_L_21, hO.2.2.2.2.2.2.2 ("java/lang/IllegalArgumentException", "java/lang/IndexOutOfBoundsException") (by decide)⟩
      ) (by decide) (by decide) (hts _ w_cl_L_13) ((hO.2.2.1 _ w_cc_2).use rfl) hcx hvx hclx ?_
      refine lv_astore (lv' := [(4, .ref q9), (0, .ref (ad 0 0)), (1, .int p1), (2, .int p2), (3, .ref (ad 90 0))]) hx hb dL_stock_17 hl (by decide) rfl (fun ls hl => ?_)
      refine lv_iconst (v := 2) hx hb dL_stock_19 (by decide) ?_
      refine k_iretW hx hb hr hlocks rfl hw (by rw [hk]; rfl) ?_ (Nat.le_of_ble_eq_true rfl) (Nat.le_of_ble_eq_true rfl) dL_stock_20
      rw [hk]
      exact out_same ho
    · exact absurd hk (cd_stock_3 S p1 p2)
  · refine lv_i2l (v := (sp_X5_stock S p1 p2).2.1.toInt64) hx hb dL_stock_8 rfl ?_
    refine k_last hx hb hK hw hm 1 ((cK_ou (by decide)).trans ho) rfl (vp_in_nI (n := 0) (N := 1) (by decide) (by decide)) (cK_out (by decide)) dL_stock_9 (fun H locs hw => ?_)
    refine lv_goto (tgt := 21) hx hb dL_stock_10 (by decide) ?_
    refine lv_iconst (v := 0) hx hb dL_stock_21 (by decide) ?_
    refine k_iretW hx hb hr hlocks rfl hw (by rw [hc0]; rfl) ?_ (Nat.le_of_ble_eq_true rfl) (Nat.le_of_ble_eq_true rfl) dL_stock_22
    rw [hc0]
    rfl

def wc_order (k : Nat) : Int32 := if k = 1 then 1 else if k = 2 then 2 else if k = 3 then 3 else 0
abbrev bw_L_order : List Cond := .codeWith yL_order cL_order 6 (some .int) [(0, 12, 15, 21), (0, 12, 19, 13), (0, 12, 23, 15)] :: BIG
abbrev rm_L_order : Room := { frames := 7, cells := 2, slots := 12, locals := 114 }
set_option maxHeartbeats 1000000 in
theorem ct_L_order {l : Launch} {D : va_G} {cI cG cJ cO : ClassId} {K0 : Nat → Nat} {A : Nat → Prop} {L : List (Nat × Nat)} {ad : Nat → Nat → Nat} {ce : Nat → Nat → va_E} (hL : ∀ f o, cid f o = true → (f, o) ∈ L) (S : (Nat → Nat → Nat → Int32)) (hI : CI S) (p1 : Int32) (p2 : Int32) (p3 : Int32) (hst : l.stackTraces = false) {g : Nat → Int64} (hm : (90, 0) ∈ L) (ho : ce 90 0 = .inl (cG, 1, .inr (.inl g))) (sz : Nat) (hA : ∀ q, sz ≤ q → A q) : Met l yL_order bw_L_order rm_L_order (kP D (ktys cI cG cJ cO) K0 A L ad (cK cI cJ ad ce S) sz [.ref (ad 0 0), .int p1, .int p2, .int p3, .ref (ad 90 0)]) (kQi D A (wc_order (sp_X5_order S p1 p2 p3).1) L ad (cK cI cJ ad (up2 ce 90 0 (.inl (cG, 1, .inr (.inl (wg (sp_X5_order S p1 p2 p3).1 (sp_X5_order S p1 p2 p3).2.1 g))))) (wS (sp_X5_order S p1 p2 p3).1 S (sp_X5_order S p1 p2 p3).2.2))) 2 12 A := by
  refine va_MetW (cc := cL_order) (maxL := 6) (ret := some .int) (hh := [(0, 12, 15, 21), (0, 12, 19, 13), (0, 12, 23, 15)]) (by decide) rfl ?_
  intro p e s m args below meth c s₁ B hml hv
  obtain ⟨hav, hsz, hP, hD, hK, hO⟩ := hv
  have hx := B.exec
  have hb := B.bytes
  have hr := B.returns
  have hts : ∀ w ∈ BIG, w.before args s = true := fun w h => atoms_spec (ws := bw_L_order) B.pre w (List.mem_cons_of_mem _ h)
  have htab := vx_table (x := yL_order) B (atoms_spec (ws := bw_L_order) B.pre _ List.mem_cons_self)
  have hown : s.vm.findClass RL = some m.cls := findClass_of_methodNamed B.named
  have hlocks := B.notSynchronized
  subst hsz
  have hw := wk.start hP hD
  refine k_start (by rfl) hav (Nat.le_of_ble_eq_true rfl) (fun ls hl => ?_)
  have hl : lv_has ls 6 [(0, .ref (ad 0 0)), (1, .int p1), (2, .int p2), (3, .int p3), (4, .ref (ad 90 0))] := hl
  refine lv_aload hx hb dL_order_0 (lv_at hl 4 rfl) ?_
  refine lv_iconst (v := 0) hx hb dL_order_2 (by decide) ?_
  refine lv_aload_n hx hb dL_order_3 rfl (lv_at hl 0 rfl) ?_
  refine lv_iload_n hx hb dL_order_4 rfl (lv_at hl 1 rfl) ?_
  refine lv_iload_n hx hb dL_order_5 rfl (lv_at hl 2 rfl) ?_
  refine lv_iload_n hx hb dL_order_6 rfl (lv_at hl 3 rfl) ?_
  refine x_ci hw (x_rV (f := 0) (o := 0) (As := [.int p1, .int p2, .int p3]) (rest := [.int 0, .ref (ad 90 0)]) ⟨hx, hb, hml, hown, hts⟩ hK hO hw (ct_X5_order hL S hI p1 p2 p3 hst _ (wk.hA hw hA)) (cwV 3 hts (gB_V w_ml_L_30 w_im_X5_order w_se_X5_order w_in_X5 w_co_X5_order) rfl rfl rfl (by decide +kernel) ⟨Nat.le_of_ble_eq_true rfl, Nat.le_of_ble_eq_true rfl⟩) (hL 0 0 rfl) cke_0 rfl rfl hl.1 rfl (Nat.le_of_ble_eq_true rfl) dL_order_7 ⟨Nat.le_of_ble_eq_true rfl, Nat.le_of_ble_eq_true rfl⟩) (fun E cx q9 H locs hx9 hw hcx hvx hclx => ?_) (fun H locs hc0 hw => ?_)
  · rcases hx9 with ⟨hk, rfl⟩ | ⟨hk, rfl⟩ | ⟨hk, rfl⟩
    · refine vx_catch hown (name := "java/lang/IndexOutOfBoundsException") [] ⟨0, 12, 15, 21⟩ [⟨0, 12, 19, 13⟩, ⟨0, 12, 23, 15⟩] (htab.trans rfl) (fun z hz => nomatch hz) (by decide) (by decide) (hts _ w_cl_L_21) ((hO.2.2.1 _ w_cc_1).use rfl) hcx hvx hclx ?_
      refine lv_astore (lv' := [(5, .ref q9), (0, .ref (ad 0 0)), (1, .int p1), (2, .int p2), (3, .int p3), (4, .ref (ad 90 0))]) hx hb dL_order_15 hl (by decide) rfl (fun ls hl => ?_)
      refine lv_iconst (v := 1) hx hb dL_order_17 (by decide) ?_
      refine k_iretW hx hb hr hlocks rfl hw (by rw [hk]; rfl) ?_ (Nat.le_of_ble_eq_true rfl) (Nat.le_of_ble_eq_true rfl) dL_order_18
      rw [hk]
      exact out_same ho
    · refine vx_catch hown (name := "java/lang/IllegalArgumentException") [⟨0, 12, 15, 21⟩] ⟨0, 12, 19, 13⟩ [⟨0, 12, 23, 15⟩] (htab.trans rfl) (fun z hz => by
        simp only [List.mem_cons, List.not_mem_nil, or_false] at hz
        rcases hz with rfl
        · exact Or.inr ⟨by decide, "java/lang/IndexOutOfBoundsException", hts _ w_cl_L_21, hO.2.2.2.2.2.2.2 ("java/lang/IllegalArgumentException", "java/lang/IndexOutOfBoundsException") (by decide)⟩
      ) (by decide) (by decide) (hts _ w_cl_L_13) ((hO.2.2.1 _ w_cc_2).use rfl) hcx hvx hclx ?_
      refine lv_astore (lv' := [(5, .ref q9), (0, .ref (ad 0 0)), (1, .int p1), (2, .int p2), (3, .int p3), (4, .ref (ad 90 0))]) hx hb dL_order_19 hl (by decide) rfl (fun ls hl => ?_)
      refine lv_iconst (v := 2) hx hb dL_order_21 (by decide) ?_
      refine k_iretW hx hb hr hlocks rfl hw (by rw [hk]; rfl) ?_ (Nat.le_of_ble_eq_true rfl) (Nat.le_of_ble_eq_true rfl) dL_order_22
      rw [hk]
      exact out_same ho
    · refine vx_catch hown (name := "java/lang/IllegalStateException") [⟨0, 12, 15, 21⟩, ⟨0, 12, 19, 13⟩] ⟨0, 12, 23, 15⟩ [] (htab.trans rfl) (fun z hz => by
        simp only [List.mem_cons, List.not_mem_nil, or_false] at hz
        rcases hz with rfl | rfl
        · exact Or.inr ⟨by decide, "java/lang/IndexOutOfBoundsException", hts _ w_cl_L_21, hO.2.2.2.2.2.2.2 ("java/lang/IllegalStateException", "java/lang/IndexOutOfBoundsException") (by decide)⟩
        · exact Or.inr ⟨by decide, "java/lang/IllegalArgumentException", hts _ w_cl_L_13, hO.2.2.2.2.2.2.2 ("java/lang/IllegalStateException", "java/lang/IllegalArgumentException") (by decide)⟩
      ) (by decide) (by decide) (hts _ w_cl_L_15) ((hO.2.2.1 _ w_cc_3).use rfl) hcx hvx hclx ?_
      refine lv_astore (lv' := [(5, .ref q9), (0, .ref (ad 0 0)), (1, .int p1), (2, .int p2), (3, .int p3), (4, .ref (ad 90 0))]) hx hb dL_order_23 hl (by decide) rfl (fun ls hl => ?_)
      refine lv_iconst (v := 3) hx hb dL_order_25 (by decide) ?_
      refine k_iretW hx hb hr hlocks rfl hw (by rw [hk]; rfl) ?_ (Nat.le_of_ble_eq_true rfl) (Nat.le_of_ble_eq_true rfl) dL_order_26
      rw [hk]
      exact out_same ho
  · refine lv_i2l (v := (sp_X5_order S p1 p2 p3).2.1.toInt64) hx hb dL_order_10 rfl ?_
    refine k_last hx hb hK hw hm 1 ((cK_ou (by decide)).trans ho) rfl (vp_in_nI (n := 0) (N := 1) (by decide) (by decide)) (cK_out (by decide)) dL_order_11 (fun H locs hw => ?_)
    refine lv_goto (tgt := 27) hx hb dL_order_12 (by decide) ?_
    refine lv_iconst (v := 0) hx hb dL_order_27 (by decide) ?_
    refine k_iretW hx hb hr hlocks rfl hw (by rw [hc0]; rfl) ?_ (Nat.le_of_ble_eq_true rfl) (Nat.le_of_ble_eq_true rfl) dL_order_28
    rw [hc0]
    rfl

def wc_late (k : Nat) : Int32 := if k = 1 then 1 else if k = 2 then 2 else if k = 3 then 3 else 0
abbrev bw_L_late : List Cond := .codeWith yL_late cL_late 5 (some .int) [(0, 10, 13, 21), (0, 10, 17, 13), (0, 10, 21, 15)] :: BIG
abbrev rm_L_late : Room := { frames := 8, cells := 2, slots := 12, locals := 134 }
set_option maxHeartbeats 1000000 in
theorem ct_L_late {l : Launch} {D : va_G} {cI cG cJ cO : ClassId} {K0 : Nat → Nat} {A : Nat → Prop} {L : List (Nat × Nat)} {ad : Nat → Nat → Nat} {ce : Nat → Nat → va_E} (hL : ∀ f o, cid f o = true → (f, o) ∈ L) (S : (Nat → Nat → Nat → Int32)) (hI : CI S) (p1 : Int32) (p2 : Int32) (hst : l.stackTraces = false) {g : Nat → Int64} (hm : (90, 0) ∈ L) (ho : ce 90 0 = .inl (cG, 1, .inr (.inl g))) (sz : Nat) (hA : ∀ q, sz ≤ q → A q) : Met l yL_late bw_L_late rm_L_late (kP D (ktys cI cG cJ cO) K0 A L ad (cK cI cJ ad ce S) sz [.ref (ad 0 0), .int p1, .int p2, .ref (ad 90 0)]) (kQi D A (wc_late (sp_X5_late S p1 p2).1) L ad (cK cI cJ ad (up2 ce 90 0 (.inl (cG, 1, .inr (.inl (wg (sp_X5_late S p1 p2).1 (sp_X5_late S p1 p2).2.1 g))))) (wS (sp_X5_late S p1 p2).1 S (sp_X5_late S p1 p2).2.2))) 2 12 A := by
  refine va_MetW (cc := cL_late) (maxL := 5) (ret := some .int) (hh := [(0, 10, 13, 21), (0, 10, 17, 13), (0, 10, 21, 15)]) (by decide) rfl ?_
  intro p e s m args below meth c s₁ B hml hv
  obtain ⟨hav, hsz, hP, hD, hK, hO⟩ := hv
  have hx := B.exec
  have hb := B.bytes
  have hr := B.returns
  have hts : ∀ w ∈ BIG, w.before args s = true := fun w h => atoms_spec (ws := bw_L_late) B.pre w (List.mem_cons_of_mem _ h)
  have htab := vx_table (x := yL_late) B (atoms_spec (ws := bw_L_late) B.pre _ List.mem_cons_self)
  have hown : s.vm.findClass RL = some m.cls := findClass_of_methodNamed B.named
  have hlocks := B.notSynchronized
  subst hsz
  have hw := wk.start hP hD
  refine k_start (by rfl) hav (Nat.le_of_ble_eq_true rfl) (fun ls hl => ?_)
  have hl : lv_has ls 5 [(0, .ref (ad 0 0)), (1, .int p1), (2, .int p2), (3, .ref (ad 90 0))] := hl
  refine lv_aload_n hx hb dL_late_0 rfl (lv_at hl 3 rfl) ?_
  refine lv_iconst (v := 0) hx hb dL_late_1 (by decide) ?_
  refine lv_aload_n hx hb dL_late_2 rfl (lv_at hl 0 rfl) ?_
  refine lv_iload_n hx hb dL_late_3 rfl (lv_at hl 1 rfl) ?_
  refine lv_iload_n hx hb dL_late_4 rfl (lv_at hl 2 rfl) ?_
  refine x_ci hw (x_rV (f := 0) (o := 0) (As := [.int p1, .int p2]) (rest := [.int 0, .ref (ad 90 0)]) ⟨hx, hb, hml, hown, hts⟩ hK hO hw (ct_X5_late hL S hI p1 p2 hst _ (wk.hA hw hA)) (cwV 2 hts (gB_V w_ml_L_34 w_im_X5_late w_se_X5_late w_in_X5 w_co_X5_late) rfl rfl rfl (by decide +kernel) ⟨Nat.le_of_ble_eq_true rfl, Nat.le_of_ble_eq_true rfl⟩) (hL 0 0 rfl) cke_0 rfl rfl hl.1 rfl (Nat.le_of_ble_eq_true rfl) dL_late_5 ⟨Nat.le_of_ble_eq_true rfl, Nat.le_of_ble_eq_true rfl⟩) (fun E cx q9 H locs hx9 hw hcx hvx hclx => ?_) (fun H locs hc0 hw => ?_)
  · rcases hx9 with ⟨hk, rfl⟩ | ⟨hk, rfl⟩ | ⟨hk, rfl⟩
    · refine vx_catch hown (name := "java/lang/IndexOutOfBoundsException") [] ⟨0, 10, 13, 21⟩ [⟨0, 10, 17, 13⟩, ⟨0, 10, 21, 15⟩] (htab.trans rfl) (fun z hz => nomatch hz) (by decide) (by decide) (hts _ w_cl_L_21) ((hO.2.2.1 _ w_cc_1).use rfl) hcx hvx hclx ?_
      refine lv_astore (lv' := [(4, .ref q9), (0, .ref (ad 0 0)), (1, .int p1), (2, .int p2), (3, .ref (ad 90 0))]) hx hb dL_late_13 hl (by decide) rfl (fun ls hl => ?_)
      refine lv_iconst (v := 1) hx hb dL_late_15 (by decide) ?_
      refine k_iretW hx hb hr hlocks rfl hw (by rw [hk]; rfl) ?_ (Nat.le_of_ble_eq_true rfl) (Nat.le_of_ble_eq_true rfl) dL_late_16
      rw [hk]
      exact out_same ho
    · refine vx_catch hown (name := "java/lang/IllegalArgumentException") [⟨0, 10, 13, 21⟩] ⟨0, 10, 17, 13⟩ [⟨0, 10, 21, 15⟩] (htab.trans rfl) (fun z hz => by
        simp only [List.mem_cons, List.not_mem_nil, or_false] at hz
        rcases hz with rfl
        · exact Or.inr ⟨by decide, "java/lang/IndexOutOfBoundsException", hts _ w_cl_L_21, hO.2.2.2.2.2.2.2 ("java/lang/IllegalArgumentException", "java/lang/IndexOutOfBoundsException") (by decide)⟩
      ) (by decide) (by decide) (hts _ w_cl_L_13) ((hO.2.2.1 _ w_cc_2).use rfl) hcx hvx hclx ?_
      refine lv_astore (lv' := [(4, .ref q9), (0, .ref (ad 0 0)), (1, .int p1), (2, .int p2), (3, .ref (ad 90 0))]) hx hb dL_late_17 hl (by decide) rfl (fun ls hl => ?_)
      refine lv_iconst (v := 2) hx hb dL_late_19 (by decide) ?_
      refine k_iretW hx hb hr hlocks rfl hw (by rw [hk]; rfl) ?_ (Nat.le_of_ble_eq_true rfl) (Nat.le_of_ble_eq_true rfl) dL_late_20
      rw [hk]
      exact out_same ho
    · refine vx_catch hown (name := "java/lang/IllegalStateException") [⟨0, 10, 13, 21⟩, ⟨0, 10, 17, 13⟩] ⟨0, 10, 21, 15⟩ [] (htab.trans rfl) (fun z hz => by
        simp only [List.mem_cons, List.not_mem_nil, or_false] at hz
        rcases hz with rfl | rfl
        · exact Or.inr ⟨by decide, "java/lang/IndexOutOfBoundsException", hts _ w_cl_L_21, hO.2.2.2.2.2.2.2 ("java/lang/IllegalStateException", "java/lang/IndexOutOfBoundsException") (by decide)⟩
        · exact Or.inr ⟨by decide, "java/lang/IllegalArgumentException", hts _ w_cl_L_13, hO.2.2.2.2.2.2.2 ("java/lang/IllegalStateException", "java/lang/IllegalArgumentException") (by decide)⟩
      ) (by decide) (by decide) (hts _ w_cl_L_15) ((hO.2.2.1 _ w_cc_3).use rfl) hcx hvx hclx ?_
      refine lv_astore (lv' := [(4, .ref q9), (0, .ref (ad 0 0)), (1, .int p1), (2, .int p2), (3, .ref (ad 90 0))]) hx hb dL_late_21 hl (by decide) rfl (fun ls hl => ?_)
      refine lv_iconst (v := 3) hx hb dL_late_23 (by decide) ?_
      refine k_iretW hx hb hr hlocks rfl hw (by rw [hk]; rfl) ?_ (Nat.le_of_ble_eq_true rfl) (Nat.le_of_ble_eq_true rfl) dL_late_24
      rw [hk]
      exact out_same ho
  · refine lv_i2l (v := (sp_X5_late S p1 p2).2.1.toInt64) hx hb dL_late_8 rfl ?_
    refine k_last hx hb hK hw hm 1 ((cK_ou (by decide)).trans ho) rfl (vp_in_nI (n := 0) (N := 1) (by decide) (by decide)) (cK_out (by decide)) dL_late_9 (fun H locs hw => ?_)
    refine lv_goto (tgt := 25) hx hb dL_late_10 (by decide) ?_
    refine lv_iconst (v := 0) hx hb dL_late_25 (by decide) ?_
    refine k_iretW hx hb hr hlocks rfl hw (by rw [hc0]; rfl) ?_ (Nat.le_of_ble_eq_true rfl) (Nat.le_of_ble_eq_true rfl) dL_late_26
    rw [hc0]
    rfl

def wc_session (k : Nat) : Int32 := if k = 1 then 1 else if k = 2 then 2 else if k = 3 then 3 else 0
abbrev bw_L_session : List Cond := .codeWith yL_session cL_session 6 (some .int) [(0, 12, 15, 21), (0, 12, 19, 13), (0, 12, 23, 15)] :: BIG
abbrev rm_L_session : Room := { frames := 7, cells := 2, slots := 12, locals := 159 }
set_option maxHeartbeats 1000000 in
theorem ct_L_session {l : Launch} {D : va_G} {cI cG cJ cO : ClassId} {K0 : Nat → Nat} {A : Nat → Prop} {L : List (Nat × Nat)} {ad : Nat → Nat → Nat} {ce : Nat → Nat → va_E} (hL : ∀ f o, cid f o = true → (f, o) ∈ L) (S : (Nat → Nat → Nat → Int32)) (hI : CI S) (p1 : Int32) (p2 : Int32) (p3 : Int32) (hst : l.stackTraces = false) {g : Nat → Int64} (hm : (90, 0) ∈ L) (ho : ce 90 0 = .inl (cG, 1, .inr (.inl g))) (sz : Nat) (hA : ∀ q, sz ≤ q → A q) : Met l yL_session bw_L_session rm_L_session (kP D (ktys cI cG cJ cO) K0 A L ad (cK cI cJ ad ce S) sz [.ref (ad 0 0), .int p1, .int p2, .int p3, .ref (ad 90 0)]) (kQi D A (wc_session (sp_X5_session S p1 p2 p3).1) L ad (cK cI cJ ad (up2 ce 90 0 (.inl (cG, 1, .inr (.inl (wg (sp_X5_session S p1 p2 p3).1 (sp_X5_session S p1 p2 p3).2.1 g))))) (wS (sp_X5_session S p1 p2 p3).1 S (sp_X5_session S p1 p2 p3).2.2))) 2 12 A := by
  refine va_MetW (cc := cL_session) (maxL := 6) (ret := some .int) (hh := [(0, 12, 15, 21), (0, 12, 19, 13), (0, 12, 23, 15)]) (by decide) rfl ?_
  intro p e s m args below meth c s₁ B hml hv
  obtain ⟨hav, hsz, hP, hD, hK, hO⟩ := hv
  have hx := B.exec
  have hb := B.bytes
  have hr := B.returns
  have hts : ∀ w ∈ BIG, w.before args s = true := fun w h => atoms_spec (ws := bw_L_session) B.pre w (List.mem_cons_of_mem _ h)
  have htab := vx_table (x := yL_session) B (atoms_spec (ws := bw_L_session) B.pre _ List.mem_cons_self)
  have hown : s.vm.findClass RL = some m.cls := findClass_of_methodNamed B.named
  have hlocks := B.notSynchronized
  subst hsz
  have hw := wk.start hP hD
  refine k_start (by rfl) hav (Nat.le_of_ble_eq_true rfl) (fun ls hl => ?_)
  have hl : lv_has ls 6 [(0, .ref (ad 0 0)), (1, .int p1), (2, .int p2), (3, .int p3), (4, .ref (ad 90 0))] := hl
  refine lv_aload hx hb dL_session_0 (lv_at hl 4 rfl) ?_
  refine lv_iconst (v := 0) hx hb dL_session_2 (by decide) ?_
  refine lv_aload_n hx hb dL_session_3 rfl (lv_at hl 0 rfl) ?_
  refine lv_iload_n hx hb dL_session_4 rfl (lv_at hl 1 rfl) ?_
  refine lv_iload_n hx hb dL_session_5 rfl (lv_at hl 2 rfl) ?_
  refine lv_iload_n hx hb dL_session_6 rfl (lv_at hl 3 rfl) ?_
  refine x_ci hw (x_rV (f := 0) (o := 0) (As := [.int p1, .int p2, .int p3]) (rest := [.int 0, .ref (ad 90 0)]) ⟨hx, hb, hml, hown, hts⟩ hK hO hw (ct_X5_session hL S hI p1 p2 p3 hst _ (wk.hA hw hA)) (cwV 3 hts (gB_V w_ml_L_37 w_im_X5_session w_se_X5_session w_in_X5 w_co_X5_session) rfl rfl rfl (by decide +kernel) ⟨Nat.le_of_ble_eq_true rfl, Nat.le_of_ble_eq_true rfl⟩) (hL 0 0 rfl) cke_0 rfl rfl hl.1 rfl (Nat.le_of_ble_eq_true rfl) dL_session_7 ⟨Nat.le_of_ble_eq_true rfl, Nat.le_of_ble_eq_true rfl⟩) (fun E cx q9 H locs hx9 hw hcx hvx hclx => ?_) (fun H locs hc0 hw => ?_)
  · rcases hx9 with ⟨hk, rfl⟩ | ⟨hk, rfl⟩ | ⟨hk, rfl⟩
    · refine vx_catch hown (name := "java/lang/IndexOutOfBoundsException") [] ⟨0, 12, 15, 21⟩ [⟨0, 12, 19, 13⟩, ⟨0, 12, 23, 15⟩] (htab.trans rfl) (fun z hz => nomatch hz) (by decide) (by decide) (hts _ w_cl_L_21) ((hO.2.2.1 _ w_cc_1).use rfl) hcx hvx hclx ?_
      refine lv_astore (lv' := [(5, .ref q9), (0, .ref (ad 0 0)), (1, .int p1), (2, .int p2), (3, .int p3), (4, .ref (ad 90 0))]) hx hb dL_session_15 hl (by decide) rfl (fun ls hl => ?_)
      refine lv_iconst (v := 1) hx hb dL_session_17 (by decide) ?_
      refine k_iretW hx hb hr hlocks rfl hw (by rw [hk]; rfl) ?_ (Nat.le_of_ble_eq_true rfl) (Nat.le_of_ble_eq_true rfl) dL_session_18
      rw [hk]
      exact out_same ho
    · refine vx_catch hown (name := "java/lang/IllegalArgumentException") [⟨0, 12, 15, 21⟩] ⟨0, 12, 19, 13⟩ [⟨0, 12, 23, 15⟩] (htab.trans rfl) (fun z hz => by
        simp only [List.mem_cons, List.not_mem_nil, or_false] at hz
        rcases hz with rfl
        · exact Or.inr ⟨by decide, "java/lang/IndexOutOfBoundsException", hts _ w_cl_L_21, hO.2.2.2.2.2.2.2 ("java/lang/IllegalArgumentException", "java/lang/IndexOutOfBoundsException") (by decide)⟩
      ) (by decide) (by decide) (hts _ w_cl_L_13) ((hO.2.2.1 _ w_cc_2).use rfl) hcx hvx hclx ?_
      refine lv_astore (lv' := [(5, .ref q9), (0, .ref (ad 0 0)), (1, .int p1), (2, .int p2), (3, .int p3), (4, .ref (ad 90 0))]) hx hb dL_session_19 hl (by decide) rfl (fun ls hl => ?_)
      refine lv_iconst (v := 2) hx hb dL_session_21 (by decide) ?_
      refine k_iretW hx hb hr hlocks rfl hw (by rw [hk]; rfl) ?_ (Nat.le_of_ble_eq_true rfl) (Nat.le_of_ble_eq_true rfl) dL_session_22
      rw [hk]
      exact out_same ho
    · refine vx_catch hown (name := "java/lang/IllegalStateException") [⟨0, 12, 15, 21⟩, ⟨0, 12, 19, 13⟩] ⟨0, 12, 23, 15⟩ [] (htab.trans rfl) (fun z hz => by
        simp only [List.mem_cons, List.not_mem_nil, or_false] at hz
        rcases hz with rfl | rfl
        · exact Or.inr ⟨by decide, "java/lang/IndexOutOfBoundsException", hts _ w_cl_L_21, hO.2.2.2.2.2.2.2 ("java/lang/IllegalStateException", "java/lang/IndexOutOfBoundsException") (by decide)⟩
        · exact Or.inr ⟨by decide, "java/lang/IllegalArgumentException", hts _ w_cl_L_13, hO.2.2.2.2.2.2.2 ("java/lang/IllegalStateException", "java/lang/IllegalArgumentException") (by decide)⟩
      ) (by decide) (by decide) (hts _ w_cl_L_15) ((hO.2.2.1 _ w_cc_3).use rfl) hcx hvx hclx ?_
      refine lv_astore (lv' := [(5, .ref q9), (0, .ref (ad 0 0)), (1, .int p1), (2, .int p2), (3, .int p3), (4, .ref (ad 90 0))]) hx hb dL_session_23 hl (by decide) rfl (fun ls hl => ?_)
      refine lv_iconst (v := 3) hx hb dL_session_25 (by decide) ?_
      refine k_iretW hx hb hr hlocks rfl hw (by rw [hk]; rfl) ?_ (Nat.le_of_ble_eq_true rfl) (Nat.le_of_ble_eq_true rfl) dL_session_26
      rw [hk]
      exact out_same ho
  · refine lv_i2l (v := (sp_X5_session S p1 p2 p3).2.1.toInt64) hx hb dL_session_10 rfl ?_
    refine k_last hx hb hK hw hm 1 ((cK_ou (by decide)).trans ho) rfl (vp_in_nI (n := 0) (N := 1) (by decide) (by decide)) (cK_out (by decide)) dL_session_11 (fun H locs hw => ?_)
    refine lv_goto (tgt := 27) hx hb dL_session_12 (by decide) ?_
    refine lv_iconst (v := 0) hx hb dL_session_27 (by decide) ?_
    refine k_iretW hx hb hr hlocks rfl hw (by rw [hc0]; rfl) ?_ (Nat.le_of_ble_eq_true rfl) (Nat.le_of_ble_eq_true rfl) dL_session_28
    rw [hc0]
    rfl

def wc_ofSession (k : Nat) : Int32 := if k = 1 then 1 else if k = 2 then 2 else 0
abbrev bw_L_ofSession : List Cond := .codeWith yL_ofSession cL_ofSession 5 (some .int) [(0, 10, 13, 21), (0, 10, 17, 13)] :: BIG
abbrev rm_L_ofSession : Room := { frames := 7, cells := 2, slots := 12, locals := 112 }
theorem cd_ofSession_3 (S : (Nat → Nat → Nat → Int32)) (p1 : Int32) (p2 : Int32) : ¬ (sp_X5_ofSession S p1 p2).1 = 3 := by
  unfold sp_X5_ofSession
  repeat' split
  all_goals first | exact (by decide : ¬ (0 : Nat) = 3) | exact (by decide : ¬ (1 : Nat) = 3) | exact (by decide : ¬ (2 : Nat) = 3) | exact cd_joinerAt_3 _ _
set_option maxHeartbeats 1000000 in
theorem ct_L_ofSession {l : Launch} {D : va_G} {cI cG cJ cO : ClassId} {K0 : Nat → Nat} {A : Nat → Prop} {L : List (Nat × Nat)} {ad : Nat → Nat → Nat} {ce : Nat → Nat → va_E} (hL : ∀ f o, cid f o = true → (f, o) ∈ L) (S : (Nat → Nat → Nat → Int32)) (hI : CI S) (p1 : Int32) (p2 : Int32) (hst : l.stackTraces = false) {g : Nat → Int64} (hm : (90, 0) ∈ L) (ho : ce 90 0 = .inl (cG, 1, .inr (.inl g))) (sz : Nat) (hA : ∀ q, sz ≤ q → A q) : Met l yL_ofSession bw_L_ofSession rm_L_ofSession (kP D (ktys cI cG cJ cO) K0 A L ad (cK cI cJ ad ce S) sz [.ref (ad 0 0), .int p1, .int p2, .ref (ad 90 0)]) (kQi D A (wc_ofSession (sp_X5_ofSession S p1 p2).1) L ad (cK cI cJ ad (up2 ce 90 0 (.inl (cG, 1, .inr (.inl (wg (sp_X5_ofSession S p1 p2).1 (sp_X5_ofSession S p1 p2).2 g))))) (wS (sp_X5_ofSession S p1 p2).1 S S))) 2 12 A := by
  refine va_MetW (cc := cL_ofSession) (maxL := 5) (ret := some .int) (hh := [(0, 10, 13, 21), (0, 10, 17, 13)]) (by decide) rfl ?_
  intro p e s m args below meth c s₁ B hml hv
  obtain ⟨hav, hsz, hP, hD, hK, hO⟩ := hv
  have hx := B.exec
  have hb := B.bytes
  have hr := B.returns
  have hts : ∀ w ∈ BIG, w.before args s = true := fun w h => atoms_spec (ws := bw_L_ofSession) B.pre w (List.mem_cons_of_mem _ h)
  have htab := vx_table (x := yL_ofSession) B (atoms_spec (ws := bw_L_ofSession) B.pre _ List.mem_cons_self)
  have hown : s.vm.findClass RL = some m.cls := findClass_of_methodNamed B.named
  have hlocks := B.notSynchronized
  subst hsz
  have hw := wk.start hP hD
  refine k_start (by rfl) hav (Nat.le_of_ble_eq_true rfl) (fun ls hl => ?_)
  have hl : lv_has ls 5 [(0, .ref (ad 0 0)), (1, .int p1), (2, .int p2), (3, .ref (ad 90 0))] := hl
  refine lv_aload_n hx hb dL_ofSession_0 rfl (lv_at hl 3 rfl) ?_
  refine lv_iconst (v := 0) hx hb dL_ofSession_1 (by decide) ?_
  refine lv_aload_n hx hb dL_ofSession_2 rfl (lv_at hl 0 rfl) ?_
  refine lv_iload_n hx hb dL_ofSession_3 rfl (lv_at hl 1 rfl) ?_
  refine lv_iload_n hx hb dL_ofSession_4 rfl (lv_at hl 2 rfl) ?_
  refine x_ci hw (x_rV (f := 0) (o := 0) (As := [.int p1, .int p2]) (rest := [.int 0, .ref (ad 90 0)]) ⟨hx, hb, hml, hown, hts⟩ hK hO hw (ct_X5_ofSession hL S hI p1 p2 hst _ (wk.hA hw hA)) (cwV 2 hts (gB_V w_ml_L_40 w_im_X5_ofSession w_se_X5_ofSession w_in_X5 w_co_X5_ofSession) rfl rfl rfl (by decide +kernel) ⟨Nat.le_of_ble_eq_true rfl, Nat.le_of_ble_eq_true rfl⟩) (hL 0 0 rfl) cke_0 rfl rfl hl.1 rfl (Nat.le_of_ble_eq_true rfl) dL_ofSession_5 ⟨Nat.le_of_ble_eq_true rfl, Nat.le_of_ble_eq_true rfl⟩) (fun E cx q9 H locs hx9 hw hcx hvx hclx => ?_) (fun H locs hc0 hw => ?_)
  · rcases hx9 with ⟨hk, rfl⟩ | ⟨hk, rfl⟩ | ⟨hk, rfl⟩
    · refine vx_catch hown (name := "java/lang/IndexOutOfBoundsException") [] ⟨0, 10, 13, 21⟩ [⟨0, 10, 17, 13⟩] (htab.trans rfl) (fun z hz => nomatch hz) (by decide) (by decide) (hts _ w_cl_L_21) ((hO.2.2.1 _ w_cc_1).use rfl) hcx hvx hclx ?_
      refine lv_astore (lv' := [(4, .ref q9), (0, .ref (ad 0 0)), (1, .int p1), (2, .int p2), (3, .ref (ad 90 0))]) hx hb dL_ofSession_13 hl (by decide) rfl (fun ls hl => ?_)
      refine lv_iconst (v := 1) hx hb dL_ofSession_15 (by decide) ?_
      refine k_iretW hx hb hr hlocks rfl hw (by rw [hk]; rfl) ?_ (Nat.le_of_ble_eq_true rfl) (Nat.le_of_ble_eq_true rfl) dL_ofSession_16
      rw [hk]
      exact out_same ho
    · refine vx_catch hown (name := "java/lang/IllegalArgumentException") [⟨0, 10, 13, 21⟩] ⟨0, 10, 17, 13⟩ [] (htab.trans rfl) (fun z hz => by
        simp only [List.mem_cons, List.not_mem_nil, or_false] at hz
        rcases hz with rfl
        · exact Or.inr ⟨by decide, "java/lang/IndexOutOfBoundsException", hts _ w_cl_L_21, hO.2.2.2.2.2.2.2 ("java/lang/IllegalArgumentException", "java/lang/IndexOutOfBoundsException") (by decide)⟩
      ) (by decide) (by decide) (hts _ w_cl_L_13) ((hO.2.2.1 _ w_cc_2).use rfl) hcx hvx hclx ?_
      refine lv_astore (lv' := [(4, .ref q9), (0, .ref (ad 0 0)), (1, .int p1), (2, .int p2), (3, .ref (ad 90 0))]) hx hb dL_ofSession_17 hl (by decide) rfl (fun ls hl => ?_)
      refine lv_iconst (v := 2) hx hb dL_ofSession_19 (by decide) ?_
      refine k_iretW hx hb hr hlocks rfl hw (by rw [hk]; rfl) ?_ (Nat.le_of_ble_eq_true rfl) (Nat.le_of_ble_eq_true rfl) dL_ofSession_20
      rw [hk]
      exact out_same ho
    · exact absurd hk (cd_ofSession_3 S p1 p2)
  · refine lv_i2l (v := (sp_X5_ofSession S p1 p2).2.toInt64) hx hb dL_ofSession_8 rfl ?_
    refine k_last hx hb hK hw hm 1 ((cK_ou (by decide)).trans ho) rfl (vp_in_nI (n := 0) (N := 1) (by decide) (by decide)) (cK_out (by decide)) dL_ofSession_9 (fun H locs hw => ?_)
    refine lv_goto (tgt := 21) hx hb dL_ofSession_10 (by decide) ?_
    refine lv_iconst (v := 0) hx hb dL_ofSession_21 (by decide) ?_
    refine k_iretW hx hb hr hlocks rfl hw (by rw [hc0]; rfl) ?_ (Nat.le_of_ble_eq_true rfl) (Nat.le_of_ble_eq_true rfl) dL_ofSession_22
    rw [hc0]
    rfl

def wc_ofItem (k : Nat) : Int32 := if k = 1 then 1 else if k = 2 then 2 else 0
abbrev bw_L_ofItem : List Cond := .codeWith yL_ofItem cL_ofItem 5 (some .int) [(0, 10, 13, 21), (0, 10, 17, 13)] :: BIG
abbrev rm_L_ofItem : Room := { frames := 7, cells := 2, slots := 12, locals := 114 }
theorem cd_ofItem_3 (S : (Nat → Nat → Nat → Int32)) (p1 : Int32) (p2 : Int32) : ¬ (sp_X5_ofItem S p1 p2).1 = 3 := by
  unfold sp_X5_ofItem
  repeat' split
  all_goals first | exact (by decide : ¬ (0 : Nat) = 3) | exact (by decide : ¬ (1 : Nat) = 3) | exact (by decide : ¬ (2 : Nat) = 3) | exact cd_joinerAt_3 _ _
set_option maxHeartbeats 1000000 in
theorem ct_L_ofItem {l : Launch} {D : va_G} {cI cG cJ cO : ClassId} {K0 : Nat → Nat} {A : Nat → Prop} {L : List (Nat × Nat)} {ad : Nat → Nat → Nat} {ce : Nat → Nat → va_E} (hL : ∀ f o, cid f o = true → (f, o) ∈ L) (S : (Nat → Nat → Nat → Int32)) (hI : CI S) (p1 : Int32) (p2 : Int32) (hst : l.stackTraces = false) {g : Nat → Int64} (hm : (90, 0) ∈ L) (ho : ce 90 0 = .inl (cG, 1, .inr (.inl g))) (sz : Nat) (hA : ∀ q, sz ≤ q → A q) : Met l yL_ofItem bw_L_ofItem rm_L_ofItem (kP D (ktys cI cG cJ cO) K0 A L ad (cK cI cJ ad ce S) sz [.ref (ad 0 0), .int p1, .int p2, .ref (ad 90 0)]) (kQi D A (wc_ofItem (sp_X5_ofItem S p1 p2).1) L ad (cK cI cJ ad (up2 ce 90 0 (.inl (cG, 1, .inr (.inl (wg (sp_X5_ofItem S p1 p2).1 (sp_X5_ofItem S p1 p2).2 g))))) (wS (sp_X5_ofItem S p1 p2).1 S S))) 2 12 A := by
  refine va_MetW (cc := cL_ofItem) (maxL := 5) (ret := some .int) (hh := [(0, 10, 13, 21), (0, 10, 17, 13)]) (by decide) rfl ?_
  intro p e s m args below meth c s₁ B hml hv
  obtain ⟨hav, hsz, hP, hD, hK, hO⟩ := hv
  have hx := B.exec
  have hb := B.bytes
  have hr := B.returns
  have hts : ∀ w ∈ BIG, w.before args s = true := fun w h => atoms_spec (ws := bw_L_ofItem) B.pre w (List.mem_cons_of_mem _ h)
  have htab := vx_table (x := yL_ofItem) B (atoms_spec (ws := bw_L_ofItem) B.pre _ List.mem_cons_self)
  have hown : s.vm.findClass RL = some m.cls := findClass_of_methodNamed B.named
  have hlocks := B.notSynchronized
  subst hsz
  have hw := wk.start hP hD
  refine k_start (by rfl) hav (Nat.le_of_ble_eq_true rfl) (fun ls hl => ?_)
  have hl : lv_has ls 5 [(0, .ref (ad 0 0)), (1, .int p1), (2, .int p2), (3, .ref (ad 90 0))] := hl
  refine lv_aload_n hx hb dL_ofItem_0 rfl (lv_at hl 3 rfl) ?_
  refine lv_iconst (v := 0) hx hb dL_ofItem_1 (by decide) ?_
  refine lv_aload_n hx hb dL_ofItem_2 rfl (lv_at hl 0 rfl) ?_
  refine lv_iload_n hx hb dL_ofItem_3 rfl (lv_at hl 1 rfl) ?_
  refine lv_iload_n hx hb dL_ofItem_4 rfl (lv_at hl 2 rfl) ?_
  refine x_ci hw (x_rV (f := 0) (o := 0) (As := [.int p1, .int p2]) (rest := [.int 0, .ref (ad 90 0)]) ⟨hx, hb, hml, hown, hts⟩ hK hO hw (ct_X5_ofItem hL S hI p1 p2 hst _ (wk.hA hw hA)) (cwV 2 hts (gB_V w_ml_L_43 w_im_X5_ofItem w_se_X5_ofItem w_in_X5 w_co_X5_ofItem) rfl rfl rfl (by decide +kernel) ⟨Nat.le_of_ble_eq_true rfl, Nat.le_of_ble_eq_true rfl⟩) (hL 0 0 rfl) cke_0 rfl rfl hl.1 rfl (Nat.le_of_ble_eq_true rfl) dL_ofItem_5 ⟨Nat.le_of_ble_eq_true rfl, Nat.le_of_ble_eq_true rfl⟩) (fun E cx q9 H locs hx9 hw hcx hvx hclx => ?_) (fun H locs hc0 hw => ?_)
  · rcases hx9 with ⟨hk, rfl⟩ | ⟨hk, rfl⟩ | ⟨hk, rfl⟩
    · refine vx_catch hown (name := "java/lang/IndexOutOfBoundsException") [] ⟨0, 10, 13, 21⟩ [⟨0, 10, 17, 13⟩] (htab.trans rfl) (fun z hz => nomatch hz) (by decide) (by decide) (hts _ w_cl_L_21) ((hO.2.2.1 _ w_cc_1).use rfl) hcx hvx hclx ?_
      refine lv_astore (lv' := [(4, .ref q9), (0, .ref (ad 0 0)), (1, .int p1), (2, .int p2), (3, .ref (ad 90 0))]) hx hb dL_ofItem_13 hl (by decide) rfl (fun ls hl => ?_)
      refine lv_iconst (v := 1) hx hb dL_ofItem_15 (by decide) ?_
      refine k_iretW hx hb hr hlocks rfl hw (by rw [hk]; rfl) ?_ (Nat.le_of_ble_eq_true rfl) (Nat.le_of_ble_eq_true rfl) dL_ofItem_16
      rw [hk]
      exact out_same ho
    · refine vx_catch hown (name := "java/lang/IllegalArgumentException") [⟨0, 10, 13, 21⟩] ⟨0, 10, 17, 13⟩ [] (htab.trans rfl) (fun z hz => by
        simp only [List.mem_cons, List.not_mem_nil, or_false] at hz
        rcases hz with rfl
        · exact Or.inr ⟨by decide, "java/lang/IndexOutOfBoundsException", hts _ w_cl_L_21, hO.2.2.2.2.2.2.2 ("java/lang/IllegalArgumentException", "java/lang/IndexOutOfBoundsException") (by decide)⟩
      ) (by decide) (by decide) (hts _ w_cl_L_13) ((hO.2.2.1 _ w_cc_2).use rfl) hcx hvx hclx ?_
      refine lv_astore (lv' := [(4, .ref q9), (0, .ref (ad 0 0)), (1, .int p1), (2, .int p2), (3, .ref (ad 90 0))]) hx hb dL_ofItem_17 hl (by decide) rfl (fun ls hl => ?_)
      refine lv_iconst (v := 2) hx hb dL_ofItem_19 (by decide) ?_
      refine k_iretW hx hb hr hlocks rfl hw (by rw [hk]; rfl) ?_ (Nat.le_of_ble_eq_true rfl) (Nat.le_of_ble_eq_true rfl) dL_ofItem_20
      rw [hk]
      exact out_same ho
    · exact absurd hk (cd_ofItem_3 S p1 p2)
  · refine lv_i2l (v := (sp_X5_ofItem S p1 p2).2.toInt64) hx hb dL_ofItem_8 rfl ?_
    refine k_last hx hb hK hw hm 1 ((cK_ou (by decide)).trans ho) rfl (vp_in_nI (n := 0) (N := 1) (by decide) (by decide)) (cK_out (by decide)) dL_ofItem_9 (fun H locs hw => ?_)
    refine lv_goto (tgt := 21) hx hb dL_ofItem_10 (by decide) ?_
    refine lv_iconst (v := 0) hx hb dL_ofItem_21 (by decide) ?_
    refine k_iretW hx hb hr hlocks rfl hw (by rw [hc0]; rfl) ?_ (Nat.le_of_ble_eq_true rfl) (Nat.le_of_ble_eq_true rfl) dL_ofItem_22
    rw [hc0]
    rfl

def wc_join (k : Nat) : Int32 := if k = 1 then 1 else if k = 2 then 2 else if k = 3 then 3 else 0
abbrev bw_L_join : List Cond := .codeWith yL_join cL_join 5 (some .int) [(0, 10, 13, 21), (0, 10, 17, 13), (0, 10, 21, 15)] :: BIG
abbrev rm_L_join : Room := { frames := 7, cells := 2, slots := 12, locals := 159 }
set_option maxHeartbeats 1000000 in
theorem ct_L_join {l : Launch} {D : va_G} {cI cG cJ cO : ClassId} {K0 : Nat → Nat} {A : Nat → Prop} {L : List (Nat × Nat)} {ad : Nat → Nat → Nat} {ce : Nat → Nat → va_E} (hL : ∀ f o, cid f o = true → (f, o) ∈ L) (S : (Nat → Nat → Nat → Int32)) (hI : CI S) (p1 : Int32) (p2 : Int32) (hst : l.stackTraces = false) {g : Nat → Int64} (hm : (90, 0) ∈ L) (ho : ce 90 0 = .inl (cG, 1, .inr (.inl g))) (sz : Nat) (hA : ∀ q, sz ≤ q → A q) : Met l yL_join bw_L_join rm_L_join (kP D (ktys cI cG cJ cO) K0 A L ad (cK cI cJ ad ce S) sz [.ref (ad 0 0), .int p1, .int p2, .ref (ad 90 0)]) (kQi D A (wc_join (sp_X5_join S p1 p2).1) L ad (cK cI cJ ad (up2 ce 90 0 (.inl (cG, 1, .inr (.inl (wg (sp_X5_join S p1 p2).1 (sp_X5_join S p1 p2).2.1 g))))) (wS (sp_X5_join S p1 p2).1 S (sp_X5_join S p1 p2).2.2))) 2 12 A := by
  refine va_MetW (cc := cL_join) (maxL := 5) (ret := some .int) (hh := [(0, 10, 13, 21), (0, 10, 17, 13), (0, 10, 21, 15)]) (by decide) rfl ?_
  intro p e s m args below meth c s₁ B hml hv
  obtain ⟨hav, hsz, hP, hD, hK, hO⟩ := hv
  have hx := B.exec
  have hb := B.bytes
  have hr := B.returns
  have hts : ∀ w ∈ BIG, w.before args s = true := fun w h => atoms_spec (ws := bw_L_join) B.pre w (List.mem_cons_of_mem _ h)
  have htab := vx_table (x := yL_join) B (atoms_spec (ws := bw_L_join) B.pre _ List.mem_cons_self)
  have hown : s.vm.findClass RL = some m.cls := findClass_of_methodNamed B.named
  have hlocks := B.notSynchronized
  subst hsz
  have hw := wk.start hP hD
  refine k_start (by rfl) hav (Nat.le_of_ble_eq_true rfl) (fun ls hl => ?_)
  have hl : lv_has ls 5 [(0, .ref (ad 0 0)), (1, .int p1), (2, .int p2), (3, .ref (ad 90 0))] := hl
  refine lv_aload_n hx hb dL_join_0 rfl (lv_at hl 3 rfl) ?_
  refine lv_iconst (v := 0) hx hb dL_join_1 (by decide) ?_
  refine lv_aload_n hx hb dL_join_2 rfl (lv_at hl 0 rfl) ?_
  refine lv_iload_n hx hb dL_join_3 rfl (lv_at hl 1 rfl) ?_
  refine lv_iload_n hx hb dL_join_4 rfl (lv_at hl 2 rfl) ?_
  refine x_ci hw (x_rV (f := 0) (o := 0) (As := [.int p1, .int p2]) (rest := [.int 0, .ref (ad 90 0)]) ⟨hx, hb, hml, hown, hts⟩ hK hO hw (ct_X5_join hL S hI p1 p2 hst _ (wk.hA hw hA)) (cwV 2 hts (gB_V w_ml_L_46 w_im_X5_join w_se_X5_join w_in_X5 w_co_X5_join) rfl rfl rfl (by decide +kernel) ⟨Nat.le_of_ble_eq_true rfl, Nat.le_of_ble_eq_true rfl⟩) (hL 0 0 rfl) cke_0 rfl rfl hl.1 rfl (Nat.le_of_ble_eq_true rfl) dL_join_5 ⟨Nat.le_of_ble_eq_true rfl, Nat.le_of_ble_eq_true rfl⟩) (fun E cx q9 H locs hx9 hw hcx hvx hclx => ?_) (fun H locs hc0 hw => ?_)
  · rcases hx9 with ⟨hk, rfl⟩ | ⟨hk, rfl⟩ | ⟨hk, rfl⟩
    · refine vx_catch hown (name := "java/lang/IndexOutOfBoundsException") [] ⟨0, 10, 13, 21⟩ [⟨0, 10, 17, 13⟩, ⟨0, 10, 21, 15⟩] (htab.trans rfl) (fun z hz => nomatch hz) (by decide) (by decide) (hts _ w_cl_L_21) ((hO.2.2.1 _ w_cc_1).use rfl) hcx hvx hclx ?_
      refine lv_astore (lv' := [(4, .ref q9), (0, .ref (ad 0 0)), (1, .int p1), (2, .int p2), (3, .ref (ad 90 0))]) hx hb dL_join_13 hl (by decide) rfl (fun ls hl => ?_)
      refine lv_iconst (v := 1) hx hb dL_join_15 (by decide) ?_
      refine k_iretW hx hb hr hlocks rfl hw (by rw [hk]; rfl) ?_ (Nat.le_of_ble_eq_true rfl) (Nat.le_of_ble_eq_true rfl) dL_join_16
      rw [hk]
      exact out_same ho
    · refine vx_catch hown (name := "java/lang/IllegalArgumentException") [⟨0, 10, 13, 21⟩] ⟨0, 10, 17, 13⟩ [⟨0, 10, 21, 15⟩] (htab.trans rfl) (fun z hz => by
        simp only [List.mem_cons, List.not_mem_nil, or_false] at hz
        rcases hz with rfl
        · exact Or.inr ⟨by decide, "java/lang/IndexOutOfBoundsException", hts _ w_cl_L_21, hO.2.2.2.2.2.2.2 ("java/lang/IllegalArgumentException", "java/lang/IndexOutOfBoundsException") (by decide)⟩
      ) (by decide) (by decide) (hts _ w_cl_L_13) ((hO.2.2.1 _ w_cc_2).use rfl) hcx hvx hclx ?_
      refine lv_astore (lv' := [(4, .ref q9), (0, .ref (ad 0 0)), (1, .int p1), (2, .int p2), (3, .ref (ad 90 0))]) hx hb dL_join_17 hl (by decide) rfl (fun ls hl => ?_)
      refine lv_iconst (v := 2) hx hb dL_join_19 (by decide) ?_
      refine k_iretW hx hb hr hlocks rfl hw (by rw [hk]; rfl) ?_ (Nat.le_of_ble_eq_true rfl) (Nat.le_of_ble_eq_true rfl) dL_join_20
      rw [hk]
      exact out_same ho
    · refine vx_catch hown (name := "java/lang/IllegalStateException") [⟨0, 10, 13, 21⟩, ⟨0, 10, 17, 13⟩] ⟨0, 10, 21, 15⟩ [] (htab.trans rfl) (fun z hz => by
        simp only [List.mem_cons, List.not_mem_nil, or_false] at hz
        rcases hz with rfl | rfl
        · exact Or.inr ⟨by decide, "java/lang/IndexOutOfBoundsException", hts _ w_cl_L_21, hO.2.2.2.2.2.2.2 ("java/lang/IllegalStateException", "java/lang/IndexOutOfBoundsException") (by decide)⟩
        · exact Or.inr ⟨by decide, "java/lang/IllegalArgumentException", hts _ w_cl_L_13, hO.2.2.2.2.2.2.2 ("java/lang/IllegalStateException", "java/lang/IllegalArgumentException") (by decide)⟩
      ) (by decide) (by decide) (hts _ w_cl_L_15) ((hO.2.2.1 _ w_cc_3).use rfl) hcx hvx hclx ?_
      refine lv_astore (lv' := [(4, .ref q9), (0, .ref (ad 0 0)), (1, .int p1), (2, .int p2), (3, .ref (ad 90 0))]) hx hb dL_join_21 hl (by decide) rfl (fun ls hl => ?_)
      refine lv_iconst (v := 3) hx hb dL_join_23 (by decide) ?_
      refine k_iretW hx hb hr hlocks rfl hw (by rw [hk]; rfl) ?_ (Nat.le_of_ble_eq_true rfl) (Nat.le_of_ble_eq_true rfl) dL_join_24
      rw [hk]
      exact out_same ho
  · refine lv_i2l (v := (sp_X5_join S p1 p2).2.1.toInt64) hx hb dL_join_8 rfl ?_
    refine k_last hx hb hK hw hm 1 ((cK_ou (by decide)).trans ho) rfl (vp_in_nI (n := 0) (N := 1) (by decide) (by decide)) (cK_out (by decide)) dL_join_9 (fun H locs hw => ?_)
    refine lv_goto (tgt := 25) hx hb dL_join_10 (by decide) ?_
    refine lv_iconst (v := 0) hx hb dL_join_25 (by decide) ?_
    refine k_iretW hx hb hr hlocks rfl hw (by rw [hc0]; rfl) ?_ (Nat.le_of_ble_eq_true rfl) (Nat.le_of_ble_eq_true rfl) dL_join_26
    rw [hc0]
    rfl

def wc_leave (k : Nat) : Int32 := if k = 1 then 1 else if k = 3 then 2 else 0
abbrev bw_L_leave : List Cond := .codeWith yL_leave cL_leave 4 (some .int) [(0, 9, 12, 21), (0, 9, 15, 15)] :: BIG
abbrev rm_L_leave : Room := { frames := 8, cells := 2, slots := 12, locals := 158 }
theorem cd_leave_2 (S : (Nat → Nat → Nat → Int32)) (p1 : Int32) : ¬ (sp_X5_leave S p1).1 = 2 := by
  rw [un_X5_leave]
  unfold rw_X5_leave
  repeat' split
  all_goals first | exact (by decide : ¬ (0 : Nat) = 2) | exact (by decide : ¬ (1 : Nat) = 2) | exact (by decide : ¬ (3 : Nat) = 2) | exact cd_joinerAt_2 _ _
set_option maxHeartbeats 1000000 in
theorem ct_L_leave {l : Launch} {D : va_G} {cI cG cJ cO : ClassId} {K0 : Nat → Nat} {A : Nat → Prop} {L : List (Nat × Nat)} {ad : Nat → Nat → Nat} {ce : Nat → Nat → va_E} (hL : ∀ f o, cid f o = true → (f, o) ∈ L) (S : (Nat → Nat → Nat → Int32)) (hI : CI S) (p1 : Int32) (hst : l.stackTraces = false) {g : Nat → Int64} (hm : (90, 0) ∈ L) (ho : ce 90 0 = .inl (cG, 1, .inr (.inl g))) (sz : Nat) (hA : ∀ q, sz ≤ q → A q) : Met l yL_leave bw_L_leave rm_L_leave (kP D (ktys cI cG cJ cO) K0 A L ad (cK cI cJ ad ce S) sz [.ref (ad 0 0), .int p1, .ref (ad 90 0)]) (kQi D A (wc_leave (sp_X5_leave S p1).1) L ad (cK cI cJ ad (up2 ce 90 0 (.inl (cG, 1, .inr (.inl (wg (sp_X5_leave S p1).1 (sp_X5_leave S p1).2.1 g))))) (wS (sp_X5_leave S p1).1 S (sp_X5_leave S p1).2.2))) 2 12 A := by
  refine va_MetW (cc := cL_leave) (maxL := 4) (ret := some .int) (hh := [(0, 9, 12, 21), (0, 9, 15, 15)]) (by decide) rfl ?_
  intro p e s m args below meth c s₁ B hml hv
  obtain ⟨hav, hsz, hP, hD, hK, hO⟩ := hv
  have hx := B.exec
  have hb := B.bytes
  have hr := B.returns
  have hts : ∀ w ∈ BIG, w.before args s = true := fun w h => atoms_spec (ws := bw_L_leave) B.pre w (List.mem_cons_of_mem _ h)
  have htab := vx_table (x := yL_leave) B (atoms_spec (ws := bw_L_leave) B.pre _ List.mem_cons_self)
  have hown : s.vm.findClass RL = some m.cls := findClass_of_methodNamed B.named
  have hlocks := B.notSynchronized
  subst hsz
  have hw := wk.start hP hD
  refine k_start (by rfl) hav (Nat.le_of_ble_eq_true rfl) (fun ls hl => ?_)
  have hl : lv_has ls 4 [(0, .ref (ad 0 0)), (1, .int p1), (2, .ref (ad 90 0))] := hl
  refine lv_aload_n hx hb dL_leave_0 rfl (lv_at hl 2 rfl) ?_
  refine lv_iconst (v := 0) hx hb dL_leave_1 (by decide) ?_
  refine lv_aload_n hx hb dL_leave_2 rfl (lv_at hl 0 rfl) ?_
  refine lv_iload_n hx hb dL_leave_3 rfl (lv_at hl 1 rfl) ?_
  refine x_ci hw (x_rV (f := 0) (o := 0) (As := [.int p1]) (rest := [.int 0, .ref (ad 90 0)]) ⟨hx, hb, hml, hown, hts⟩ hK hO hw (ct_X5_leave hL S hI p1 hst _ (wk.hA hw hA)) (cwV 1 hts (gB_V w_ml_L_49 w_im_X5_leave w_se_X5_leave w_in_X5 w_co_X5_leave) rfl rfl rfl (by decide +kernel) ⟨Nat.le_of_ble_eq_true rfl, Nat.le_of_ble_eq_true rfl⟩) (hL 0 0 rfl) cke_0 rfl rfl hl.1 rfl (Nat.le_of_ble_eq_true rfl) dL_leave_4 ⟨Nat.le_of_ble_eq_true rfl, Nat.le_of_ble_eq_true rfl⟩) (fun E cx q9 H locs hx9 hw hcx hvx hclx => ?_) (fun H locs hc0 hw => ?_)
  · rcases hx9 with ⟨hk, rfl⟩ | ⟨hk, rfl⟩ | ⟨hk, rfl⟩
    · refine vx_catch hown (name := "java/lang/IndexOutOfBoundsException") [] ⟨0, 9, 12, 21⟩ [⟨0, 9, 15, 15⟩] (htab.trans rfl) (fun z hz => nomatch hz) (by decide) (by decide) (hts _ w_cl_L_21) ((hO.2.2.1 _ w_cc_1).use rfl) hcx hvx hclx ?_
      refine lv_astore_n (lv' := [(3, .ref q9), (0, .ref (ad 0 0)), (1, .int p1), (2, .ref (ad 90 0))]) hx hb dL_leave_12 rfl hl (by decide) rfl (fun ls hl => ?_)
      refine lv_iconst (v := 1) hx hb dL_leave_13 (by decide) ?_
      refine k_iretW hx hb hr hlocks rfl hw (by rw [hk]; rfl) ?_ (Nat.le_of_ble_eq_true rfl) (Nat.le_of_ble_eq_true rfl) dL_leave_14
      rw [hk]
      exact out_same ho
    · exact absurd hk (cd_leave_2 S p1)
    · refine vx_catch hown (name := "java/lang/IllegalStateException") [⟨0, 9, 12, 21⟩] ⟨0, 9, 15, 15⟩ [] (htab.trans rfl) (fun z hz => by
        simp only [List.mem_cons, List.not_mem_nil, or_false] at hz
        rcases hz with rfl
        · exact Or.inr ⟨by decide, "java/lang/IndexOutOfBoundsException", hts _ w_cl_L_21, hO.2.2.2.2.2.2.2 ("java/lang/IllegalStateException", "java/lang/IndexOutOfBoundsException") (by decide)⟩
      ) (by decide) (by decide) (hts _ w_cl_L_15) ((hO.2.2.1 _ w_cc_3).use rfl) hcx hvx hclx ?_
      refine lv_astore_n (lv' := [(3, .ref q9), (0, .ref (ad 0 0)), (1, .int p1), (2, .ref (ad 90 0))]) hx hb dL_leave_15 rfl hl (by decide) rfl (fun ls hl => ?_)
      refine lv_iconst (v := 2) hx hb dL_leave_16 (by decide) ?_
      refine k_iretW hx hb hr hlocks rfl hw (by rw [hk]; rfl) ?_ (Nat.le_of_ble_eq_true rfl) (Nat.le_of_ble_eq_true rfl) dL_leave_17
      rw [hk]
      exact out_same ho
  · refine lv_i2l (v := (sp_X5_leave S p1).2.1.toInt64) hx hb dL_leave_7 rfl ?_
    refine k_last hx hb hK hw hm 1 ((cK_ou (by decide)).trans ho) rfl (vp_in_nI (n := 0) (N := 1) (by decide) (by decide)) (cK_out (by decide)) dL_leave_8 (fun H locs hw => ?_)
    refine lv_goto (tgt := 18) hx hb dL_leave_9 (by decide) ?_
    refine lv_iconst (v := 0) hx hb dL_leave_18 (by decide) ?_
    refine k_iretW hx hb hr hlocks rfl hw (by rw [hc0]; rfl) ?_ (Nat.le_of_ble_eq_true rfl) (Nat.le_of_ble_eq_true rfl) dL_leave_19
    rw [hc0]
    rfl

def wc_day (k : Nat) : Int32 := if k = 3 then 1 else 0
abbrev bw_L_day : List Cond := .codeWith yL_day cL_day 3 (some .int) [(0, 8, 11, 15)] :: BIG
abbrev rm_L_day : Room := { frames := 7, cells := 2, slots := 12, locals := 157 }
theorem cd_day_1 (S : (Nat → Nat → Nat → Int32)) : ¬ (sp_X5_day S).1 = 1 := by
  rw [un_X5_day]
  unfold rw_X5_day
  repeat' split
  all_goals first | exact (by decide : ¬ (0 : Nat) = 1) | exact (by decide : ¬ (2 : Nat) = 1) | exact (by decide : ¬ (3 : Nat) = 1)
theorem cd_day_2 (S : (Nat → Nat → Nat → Int32)) : ¬ (sp_X5_day S).1 = 2 := by
  rw [un_X5_day]
  unfold rw_X5_day
  repeat' split
  all_goals first | exact (by decide : ¬ (0 : Nat) = 2) | exact (by decide : ¬ (1 : Nat) = 2) | exact (by decide : ¬ (3 : Nat) = 2) | exact cd_joinerAt_2 _ _
set_option maxHeartbeats 1000000 in
theorem ct_L_day {l : Launch} {D : va_G} {cI cG cJ cO : ClassId} {K0 : Nat → Nat} {A : Nat → Prop} {L : List (Nat × Nat)} {ad : Nat → Nat → Nat} {ce : Nat → Nat → va_E} (hL : ∀ f o, cid f o = true → (f, o) ∈ L) (S : (Nat → Nat → Nat → Int32)) (hI : CI S) (hst : l.stackTraces = false) {g : Nat → Int64} (hm : (90, 0) ∈ L) (ho : ce 90 0 = .inl (cG, 1, .inr (.inl g))) (sz : Nat) (hA : ∀ q, sz ≤ q → A q) : Met l yL_day bw_L_day rm_L_day (kP D (ktys cI cG cJ cO) K0 A L ad (cK cI cJ ad ce S) sz [.ref (ad 0 0), .ref (ad 90 0)]) (kQi D A (wc_day (sp_X5_day S).1) L ad (cK cI cJ ad (up2 ce 90 0 (.inl (cG, 1, .inr (.inl (wg (sp_X5_day S).1 (sp_X5_day S).2.1 g))))) (wS (sp_X5_day S).1 S (sp_X5_day S).2.2))) 2 12 A := by
  refine va_MetW (cc := cL_day) (maxL := 3) (ret := some .int) (hh := [(0, 8, 11, 15)]) (by decide) rfl ?_
  intro p e s m args below meth c s₁ B hml hv
  obtain ⟨hav, hsz, hP, hD, hK, hO⟩ := hv
  have hx := B.exec
  have hb := B.bytes
  have hr := B.returns
  have hts : ∀ w ∈ BIG, w.before args s = true := fun w h => atoms_spec (ws := bw_L_day) B.pre w (List.mem_cons_of_mem _ h)
  have htab := vx_table (x := yL_day) B (atoms_spec (ws := bw_L_day) B.pre _ List.mem_cons_self)
  have hown : s.vm.findClass RL = some m.cls := findClass_of_methodNamed B.named
  have hlocks := B.notSynchronized
  subst hsz
  have hw := wk.start hP hD
  refine k_start (by rfl) hav (Nat.le_of_ble_eq_true rfl) (fun ls hl => ?_)
  have hl : lv_has ls 3 [(0, .ref (ad 0 0)), (1, .ref (ad 90 0))] := hl
  refine lv_aload_n hx hb dL_day_0 rfl (lv_at hl 1 rfl) ?_
  refine lv_iconst (v := 0) hx hb dL_day_1 (by decide) ?_
  refine lv_aload_n hx hb dL_day_2 rfl (lv_at hl 0 rfl) ?_
  refine x_ci hw (x_rV (f := 0) (o := 0) (As := []) (rest := [.int 0, .ref (ad 90 0)]) ⟨hx, hb, hml, hown, hts⟩ hK hO hw (ct_X5_day hL S hI hst _ (wk.hA hw hA)) (cwV 0 hts (gB_V w_ml_L_52 w_im_X5_day w_se_X5_day w_in_X5 w_co_X5_day) rfl rfl rfl (by decide +kernel) ⟨Nat.le_of_ble_eq_true rfl, Nat.le_of_ble_eq_true rfl⟩) (hL 0 0 rfl) cke_0 rfl rfl hl.1 rfl (Nat.le_of_ble_eq_true rfl) dL_day_3 ⟨Nat.le_of_ble_eq_true rfl, Nat.le_of_ble_eq_true rfl⟩) (fun E cx q9 H locs hx9 hw hcx hvx hclx => ?_) (fun H locs hc0 hw => ?_)
  · rcases hx9 with ⟨hk, rfl⟩ | ⟨hk, rfl⟩ | ⟨hk, rfl⟩
    · exact absurd hk (cd_day_1 S)
    · exact absurd hk (cd_day_2 S)
    · refine vx_catch hown (name := "java/lang/IllegalStateException") [] ⟨0, 8, 11, 15⟩ [] (htab.trans rfl) (fun z hz => nomatch hz) (by decide) (by decide) (hts _ w_cl_L_15) ((hO.2.2.1 _ w_cc_3).use rfl) hcx hvx hclx ?_
      refine lv_astore_n (lv' := [(2, .ref q9), (0, .ref (ad 0 0)), (1, .ref (ad 90 0))]) hx hb dL_day_11 rfl hl (by decide) rfl (fun ls hl => ?_)
      refine lv_iconst (v := 1) hx hb dL_day_12 (by decide) ?_
      refine k_iretW hx hb hr hlocks rfl hw (by rw [hk]; rfl) ?_ (Nat.le_of_ble_eq_true rfl) (Nat.le_of_ble_eq_true rfl) dL_day_13
      rw [hk]
      exact out_same ho
  · refine lv_i2l (v := (sp_X5_day S).2.1.toInt64) hx hb dL_day_6 rfl ?_
    refine k_last hx hb hK hw hm 1 ((cK_ou (by decide)).trans ho) rfl (vp_in_nI (n := 0) (N := 1) (by decide) (by decide)) (cK_out (by decide)) dL_day_7 (fun H locs hw => ?_)
    refine lv_goto (tgt := 14) hx hb dL_day_8 (by decide) ?_
    refine lv_iconst (v := 0) hx hb dL_day_14 (by decide) ?_
    refine k_iretW hx hb hr hlocks rfl hw (by rw [hc0]; rfl) ?_ (Nat.le_of_ble_eq_true rfl) (Nat.le_of_ble_eq_true rfl) dL_day_15
    rw [hc0]
    rfl

def wc_ofStep (k : Nat) : Int32 := if k = 1 then 1 else if k = 2 then 2 else 0
abbrev bw_L_ofStep : List Cond := .codeWith yL_ofStep cL_ofStep 6 (some .int) [(0, 12, 15, 21), (0, 12, 19, 13)] :: BIG
abbrev rm_L_ofStep : Room := { frames := 8, cells := 2, slots := 12, locals := 140 }
theorem cd_ofStep_3 (S : (Nat → Nat → Nat → Int32)) (p1 : Int32) (p2 : Int32) (p3 : Int32) : ¬ (sp_X5_ofStep S p1 p2 p3).1 = 3 := by
  rw [un_X5_ofStep]
  unfold rw_X5_ofStep
  repeat' split
  all_goals first | exact (by decide : ¬ (0 : Nat) = 3) | exact (by decide : ¬ (1 : Nat) = 3) | exact (by decide : ¬ (2 : Nat) = 3) | exact cd_joinerAt_3 _ _
set_option maxHeartbeats 1000000 in
theorem ct_L_ofStep {l : Launch} {D : va_G} {cI cG cJ cO : ClassId} {K0 : Nat → Nat} {A : Nat → Prop} {L : List (Nat × Nat)} {ad : Nat → Nat → Nat} {ce : Nat → Nat → va_E} (hL : ∀ f o, cid f o = true → (f, o) ∈ L) (S : (Nat → Nat → Nat → Int32)) (hI : CI S) (p1 : Int32) (p2 : Int32) (p3 : Int32) (hst : l.stackTraces = false) {g : Nat → Int64} (hm : (90, 0) ∈ L) (ho : ce 90 0 = .inl (cG, 1, .inr (.inl g))) (sz : Nat) (hA : ∀ q, sz ≤ q → A q) : Met l yL_ofStep bw_L_ofStep rm_L_ofStep (kP D (ktys cI cG cJ cO) K0 A L ad (cK cI cJ ad ce S) sz [.ref (ad 0 0), .int p1, .int p2, .int p3, .ref (ad 90 0)]) (kQi D A (wc_ofStep (sp_X5_ofStep S p1 p2 p3).1) L ad (cK cI cJ ad (up2 ce 90 0 (.inl (cG, 1, .inr (.inl (wg (sp_X5_ofStep S p1 p2 p3).1 (sp_X5_ofStep S p1 p2 p3).2.1 g))))) (wS (sp_X5_ofStep S p1 p2 p3).1 S (sp_X5_ofStep S p1 p2 p3).2.2))) 2 12 A := by
  refine va_MetW (cc := cL_ofStep) (maxL := 6) (ret := some .int) (hh := [(0, 12, 15, 21), (0, 12, 19, 13)]) (by decide) rfl ?_
  intro p e s m args below meth c s₁ B hml hv
  obtain ⟨hav, hsz, hP, hD, hK, hO⟩ := hv
  have hx := B.exec
  have hb := B.bytes
  have hr := B.returns
  have hts : ∀ w ∈ BIG, w.before args s = true := fun w h => atoms_spec (ws := bw_L_ofStep) B.pre w (List.mem_cons_of_mem _ h)
  have htab := vx_table (x := yL_ofStep) B (atoms_spec (ws := bw_L_ofStep) B.pre _ List.mem_cons_self)
  have hown : s.vm.findClass RL = some m.cls := findClass_of_methodNamed B.named
  have hlocks := B.notSynchronized
  subst hsz
  have hw := wk.start hP hD
  refine k_start (by rfl) hav (Nat.le_of_ble_eq_true rfl) (fun ls hl => ?_)
  have hl : lv_has ls 6 [(0, .ref (ad 0 0)), (1, .int p1), (2, .int p2), (3, .int p3), (4, .ref (ad 90 0))] := hl
  refine lv_aload hx hb dL_ofStep_0 (lv_at hl 4 rfl) ?_
  refine lv_iconst (v := 0) hx hb dL_ofStep_2 (by decide) ?_
  refine lv_aload_n hx hb dL_ofStep_3 rfl (lv_at hl 0 rfl) ?_
  refine lv_iload_n hx hb dL_ofStep_4 rfl (lv_at hl 1 rfl) ?_
  refine lv_iload_n hx hb dL_ofStep_5 rfl (lv_at hl 2 rfl) ?_
  refine lv_iload_n hx hb dL_ofStep_6 rfl (lv_at hl 3 rfl) ?_
  refine x_ci hw (x_rV (f := 0) (o := 0) (As := [.int p1, .int p2, .int p3]) (rest := [.int 0, .ref (ad 90 0)]) ⟨hx, hb, hml, hown, hts⟩ hK hO hw (ct_X5_ofStep hL S hI p1 p2 p3 hst _ (wk.hA hw hA)) (cwV 3 hts (gB_V w_ml_L_56 w_im_X5_ofStep w_se_X5_ofStep w_in_X5 w_co_X5_ofStep) rfl rfl rfl (by decide +kernel) ⟨Nat.le_of_ble_eq_true rfl, Nat.le_of_ble_eq_true rfl⟩) (hL 0 0 rfl) cke_0 rfl rfl hl.1 rfl (Nat.le_of_ble_eq_true rfl) dL_ofStep_7 ⟨Nat.le_of_ble_eq_true rfl, Nat.le_of_ble_eq_true rfl⟩) (fun E cx q9 H locs hx9 hw hcx hvx hclx => ?_) (fun H locs hc0 hw => ?_)
  · rcases hx9 with ⟨hk, rfl⟩ | ⟨hk, rfl⟩ | ⟨hk, rfl⟩
    · refine vx_catch hown (name := "java/lang/IndexOutOfBoundsException") [] ⟨0, 12, 15, 21⟩ [⟨0, 12, 19, 13⟩] (htab.trans rfl) (fun z hz => nomatch hz) (by decide) (by decide) (hts _ w_cl_L_21) ((hO.2.2.1 _ w_cc_1).use rfl) hcx hvx hclx ?_
      refine lv_astore (lv' := [(5, .ref q9), (0, .ref (ad 0 0)), (1, .int p1), (2, .int p2), (3, .int p3), (4, .ref (ad 90 0))]) hx hb dL_ofStep_15 hl (by decide) rfl (fun ls hl => ?_)
      refine lv_iconst (v := 1) hx hb dL_ofStep_17 (by decide) ?_
      refine k_iretW hx hb hr hlocks rfl hw (by rw [hk]; rfl) ?_ (Nat.le_of_ble_eq_true rfl) (Nat.le_of_ble_eq_true rfl) dL_ofStep_18
      rw [hk]
      exact out_same ho
    · refine vx_catch hown (name := "java/lang/IllegalArgumentException") [⟨0, 12, 15, 21⟩] ⟨0, 12, 19, 13⟩ [] (htab.trans rfl) (fun z hz => by
        simp only [List.mem_cons, List.not_mem_nil, or_false] at hz
        rcases hz with rfl
        · exact Or.inr ⟨by decide, "java/lang/IndexOutOfBoundsException", hts _ w_cl_L_21, hO.2.2.2.2.2.2.2 ("java/lang/IllegalArgumentException", "java/lang/IndexOutOfBoundsException") (by decide)⟩
      ) (by decide) (by decide) (hts _ w_cl_L_13) ((hO.2.2.1 _ w_cc_2).use rfl) hcx hvx hclx ?_
      refine lv_astore (lv' := [(5, .ref q9), (0, .ref (ad 0 0)), (1, .int p1), (2, .int p2), (3, .int p3), (4, .ref (ad 90 0))]) hx hb dL_ofStep_19 hl (by decide) rfl (fun ls hl => ?_)
      refine lv_iconst (v := 2) hx hb dL_ofStep_21 (by decide) ?_
      refine k_iretW hx hb hr hlocks rfl hw (by rw [hk]; rfl) ?_ (Nat.le_of_ble_eq_true rfl) (Nat.le_of_ble_eq_true rfl) dL_ofStep_22
      rw [hk]
      exact out_same ho
    · exact absurd hk (cd_ofStep_3 S p1 p2 p3)
  · refine lv_i2l (v := (sp_X5_ofStep S p1 p2 p3).2.1.toInt64) hx hb dL_ofStep_10 rfl ?_
    refine k_last hx hb hK hw hm 1 ((cK_ou (by decide)).trans ho) rfl (vp_in_nI (n := 0) (N := 1) (by decide) (by decide)) (cK_out (by decide)) dL_ofStep_11 (fun H locs hw => ?_)
    refine lv_goto (tgt := 23) hx hb dL_ofStep_12 (by decide) ?_
    refine lv_iconst (v := 0) hx hb dL_ofStep_23 (by decide) ?_
    refine k_iretW hx hb hr hlocks rfl hw (by rw [hc0]; rfl) ?_ (Nat.le_of_ble_eq_true rfl) (Nat.le_of_ble_eq_true rfl) dL_ofStep_24
    rw [hc0]
    rfl

def wc_ofJoiner (k : Nat) : Int32 := if k = 1 then 1 else if k = 2 then 2 else 0
abbrev bw_L_ofJoiner : List Cond := .codeWith yL_ofJoiner cL_ofJoiner 5 (some .int) [(0, 10, 13, 21), (0, 10, 17, 13)] :: BIG
abbrev rm_L_ofJoiner : Room := { frames := 8, cells := 2, slots := 12, locals := 139 }
theorem cd_ofJoiner_3 (S : (Nat → Nat → Nat → Int32)) (p1 : Int32) (p2 : Int32) : ¬ (sp_X5_ofJoiner S p1 p2).1 = 3 := by
  rw [un_X5_ofJoiner]
  unfold rw_X5_ofJoiner
  repeat' split
  all_goals first | exact (by decide : ¬ (0 : Nat) = 3) | exact (by decide : ¬ (1 : Nat) = 3) | exact (by decide : ¬ (2 : Nat) = 3) | exact cd_joinerAt_3 _ _
set_option maxHeartbeats 1000000 in
theorem ct_L_ofJoiner {l : Launch} {D : va_G} {cI cG cJ cO : ClassId} {K0 : Nat → Nat} {A : Nat → Prop} {L : List (Nat × Nat)} {ad : Nat → Nat → Nat} {ce : Nat → Nat → va_E} (hL : ∀ f o, cid f o = true → (f, o) ∈ L) (S : (Nat → Nat → Nat → Int32)) (hI : CI S) (p1 : Int32) (p2 : Int32) (hst : l.stackTraces = false) {g : Nat → Int64} (hm : (90, 0) ∈ L) (ho : ce 90 0 = .inl (cG, 1, .inr (.inl g))) (sz : Nat) (hA : ∀ q, sz ≤ q → A q) : Met l yL_ofJoiner bw_L_ofJoiner rm_L_ofJoiner (kP D (ktys cI cG cJ cO) K0 A L ad (cK cI cJ ad ce S) sz [.ref (ad 0 0), .int p1, .int p2, .ref (ad 90 0)]) (kQi D A (wc_ofJoiner (sp_X5_ofJoiner S p1 p2).1) L ad (cK cI cJ ad (up2 ce 90 0 (.inl (cG, 1, .inr (.inl (wg (sp_X5_ofJoiner S p1 p2).1 (sp_X5_ofJoiner S p1 p2).2.1 g))))) (wS (sp_X5_ofJoiner S p1 p2).1 S (sp_X5_ofJoiner S p1 p2).2.2))) 2 12 A := by
  refine va_MetW (cc := cL_ofJoiner) (maxL := 5) (ret := some .int) (hh := [(0, 10, 13, 21), (0, 10, 17, 13)]) (by decide) rfl ?_
  intro p e s m args below meth c s₁ B hml hv
  obtain ⟨hav, hsz, hP, hD, hK, hO⟩ := hv
  have hx := B.exec
  have hb := B.bytes
  have hr := B.returns
  have hts : ∀ w ∈ BIG, w.before args s = true := fun w h => atoms_spec (ws := bw_L_ofJoiner) B.pre w (List.mem_cons_of_mem _ h)
  have htab := vx_table (x := yL_ofJoiner) B (atoms_spec (ws := bw_L_ofJoiner) B.pre _ List.mem_cons_self)
  have hown : s.vm.findClass RL = some m.cls := findClass_of_methodNamed B.named
  have hlocks := B.notSynchronized
  subst hsz
  have hw := wk.start hP hD
  refine k_start (by rfl) hav (Nat.le_of_ble_eq_true rfl) (fun ls hl => ?_)
  have hl : lv_has ls 5 [(0, .ref (ad 0 0)), (1, .int p1), (2, .int p2), (3, .ref (ad 90 0))] := hl
  refine lv_aload_n hx hb dL_ofJoiner_0 rfl (lv_at hl 3 rfl) ?_
  refine lv_iconst (v := 0) hx hb dL_ofJoiner_1 (by decide) ?_
  refine lv_aload_n hx hb dL_ofJoiner_2 rfl (lv_at hl 0 rfl) ?_
  refine lv_iload_n hx hb dL_ofJoiner_3 rfl (lv_at hl 1 rfl) ?_
  refine lv_iload_n hx hb dL_ofJoiner_4 rfl (lv_at hl 2 rfl) ?_
  refine x_ci hw (x_rV (f := 0) (o := 0) (As := [.int p1, .int p2]) (rest := [.int 0, .ref (ad 90 0)]) ⟨hx, hb, hml, hown, hts⟩ hK hO hw (ct_X5_ofJoiner hL S hI p1 p2 hst _ (wk.hA hw hA)) (cwV 2 hts (gB_V w_ml_L_59 w_im_X5_ofJoiner w_se_X5_ofJoiner w_in_X5 w_co_X5_ofJoiner) rfl rfl rfl (by decide +kernel) ⟨Nat.le_of_ble_eq_true rfl, Nat.le_of_ble_eq_true rfl⟩) (hL 0 0 rfl) cke_0 rfl rfl hl.1 rfl (Nat.le_of_ble_eq_true rfl) dL_ofJoiner_5 ⟨Nat.le_of_ble_eq_true rfl, Nat.le_of_ble_eq_true rfl⟩) (fun E cx q9 H locs hx9 hw hcx hvx hclx => ?_) (fun H locs hc0 hw => ?_)
  · rcases hx9 with ⟨hk, rfl⟩ | ⟨hk, rfl⟩ | ⟨hk, rfl⟩
    · refine vx_catch hown (name := "java/lang/IndexOutOfBoundsException") [] ⟨0, 10, 13, 21⟩ [⟨0, 10, 17, 13⟩] (htab.trans rfl) (fun z hz => nomatch hz) (by decide) (by decide) (hts _ w_cl_L_21) ((hO.2.2.1 _ w_cc_1).use rfl) hcx hvx hclx ?_
      refine lv_astore (lv' := [(4, .ref q9), (0, .ref (ad 0 0)), (1, .int p1), (2, .int p2), (3, .ref (ad 90 0))]) hx hb dL_ofJoiner_13 hl (by decide) rfl (fun ls hl => ?_)
      refine lv_iconst (v := 1) hx hb dL_ofJoiner_15 (by decide) ?_
      refine k_iretW hx hb hr hlocks rfl hw (by rw [hk]; rfl) ?_ (Nat.le_of_ble_eq_true rfl) (Nat.le_of_ble_eq_true rfl) dL_ofJoiner_16
      rw [hk]
      exact out_same ho
    · refine vx_catch hown (name := "java/lang/IllegalArgumentException") [⟨0, 10, 13, 21⟩] ⟨0, 10, 17, 13⟩ [] (htab.trans rfl) (fun z hz => by
        simp only [List.mem_cons, List.not_mem_nil, or_false] at hz
        rcases hz with rfl
        · exact Or.inr ⟨by decide, "java/lang/IndexOutOfBoundsException", hts _ w_cl_L_21, hO.2.2.2.2.2.2.2 ("java/lang/IllegalArgumentException", "java/lang/IndexOutOfBoundsException") (by decide)⟩
      ) (by decide) (by decide) (hts _ w_cl_L_13) ((hO.2.2.1 _ w_cc_2).use rfl) hcx hvx hclx ?_
      refine lv_astore (lv' := [(4, .ref q9), (0, .ref (ad 0 0)), (1, .int p1), (2, .int p2), (3, .ref (ad 90 0))]) hx hb dL_ofJoiner_17 hl (by decide) rfl (fun ls hl => ?_)
      refine lv_iconst (v := 2) hx hb dL_ofJoiner_19 (by decide) ?_
      refine k_iretW hx hb hr hlocks rfl hw (by rw [hk]; rfl) ?_ (Nat.le_of_ble_eq_true rfl) (Nat.le_of_ble_eq_true rfl) dL_ofJoiner_20
      rw [hk]
      exact out_same ho
    · exact absurd hk (cd_ofJoiner_3 S p1 p2)
  · refine lv_i2l (v := (sp_X5_ofJoiner S p1 p2).2.1.toInt64) hx hb dL_ofJoiner_8 rfl ?_
    refine k_last hx hb hK hw hm 1 ((cK_ou (by decide)).trans ho) rfl (vp_in_nI (n := 0) (N := 1) (by decide) (by decide)) (cK_out (by decide)) dL_ofJoiner_9 (fun H locs hw => ?_)
    refine lv_goto (tgt := 21) hx hb dL_ofJoiner_10 (by decide) ?_
    refine lv_iconst (v := 0) hx hb dL_ofJoiner_21 (by decide) ?_
    refine k_iretW hx hb hr hlocks rfl hw (by rw [hc0]; rfl) ?_ (Nat.le_of_ble_eq_true rfl) (Nat.le_of_ble_eq_true rfl) dL_ofJoiner_22
    rw [hc0]
    rfl

def wc_many (k : Nat) : Int32 := if k = 2 then 1 else 0
abbrev bw_L_many : List Cond := .codeWith yL_many cL_many 4 (some .int) [(0, 9, 12, 13)] :: BIG
abbrev rm_L_many : Room := { frames := 7, cells := 2, slots := 12, locals := 111 }
theorem cd_many_1 (S : (Nat → Nat → Nat → Int32)) (p1 : Int32) : ¬ (sp_X5_many S p1).1 = 1 := by
  unfold sp_X5_many
  repeat' split
  all_goals first | exact (by decide : ¬ (0 : Nat) = 1) | exact (by decide : ¬ (2 : Nat) = 1) | exact (by decide : ¬ (3 : Nat) = 1)
theorem cd_many_3 (S : (Nat → Nat → Nat → Int32)) (p1 : Int32) : ¬ (sp_X5_many S p1).1 = 3 := by
  unfold sp_X5_many
  repeat' split
  all_goals first | exact (by decide : ¬ (0 : Nat) = 3) | exact (by decide : ¬ (1 : Nat) = 3) | exact (by decide : ¬ (2 : Nat) = 3) | exact cd_joinerAt_3 _ _
set_option maxHeartbeats 1000000 in
theorem ct_L_many {l : Launch} {D : va_G} {cI cG cJ cO : ClassId} {K0 : Nat → Nat} {A : Nat → Prop} {L : List (Nat × Nat)} {ad : Nat → Nat → Nat} {ce : Nat → Nat → va_E} (hL : ∀ f o, cid f o = true → (f, o) ∈ L) (S : (Nat → Nat → Nat → Int32)) (hI : CI S) (p1 : Int32) (hst : l.stackTraces = false) {g : Nat → Int64} (hm : (90, 0) ∈ L) (ho : ce 90 0 = .inl (cG, 1, .inr (.inl g))) (sz : Nat) (hA : ∀ q, sz ≤ q → A q) : Met l yL_many bw_L_many rm_L_many (kP D (ktys cI cG cJ cO) K0 A L ad (cK cI cJ ad ce S) sz [.ref (ad 0 0), .int p1, .ref (ad 90 0)]) (kQi D A (wc_many (sp_X5_many S p1).1) L ad (cK cI cJ ad (up2 ce 90 0 (.inl (cG, 1, .inr (.inl (wg (sp_X5_many S p1).1 (sp_X5_many S p1).2 g))))) (wS (sp_X5_many S p1).1 S S))) 2 12 A := by
  refine va_MetW (cc := cL_many) (maxL := 4) (ret := some .int) (hh := [(0, 9, 12, 13)]) (by decide) rfl ?_
  intro p e s m args below meth c s₁ B hml hv
  obtain ⟨hav, hsz, hP, hD, hK, hO⟩ := hv
  have hx := B.exec
  have hb := B.bytes
  have hr := B.returns
  have hts : ∀ w ∈ BIG, w.before args s = true := fun w h => atoms_spec (ws := bw_L_many) B.pre w (List.mem_cons_of_mem _ h)
  have htab := vx_table (x := yL_many) B (atoms_spec (ws := bw_L_many) B.pre _ List.mem_cons_self)
  have hown : s.vm.findClass RL = some m.cls := findClass_of_methodNamed B.named
  have hlocks := B.notSynchronized
  subst hsz
  have hw := wk.start hP hD
  refine k_start (by rfl) hav (Nat.le_of_ble_eq_true rfl) (fun ls hl => ?_)
  have hl : lv_has ls 4 [(0, .ref (ad 0 0)), (1, .int p1), (2, .ref (ad 90 0))] := hl
  refine lv_aload_n hx hb dL_many_0 rfl (lv_at hl 2 rfl) ?_
  refine lv_iconst (v := 0) hx hb dL_many_1 (by decide) ?_
  refine lv_aload_n hx hb dL_many_2 rfl (lv_at hl 0 rfl) ?_
  refine lv_iload_n hx hb dL_many_3 rfl (lv_at hl 1 rfl) ?_
  refine x_ci hw (x_rV (f := 0) (o := 0) (As := [.int p1]) (rest := [.int 0, .ref (ad 90 0)]) ⟨hx, hb, hml, hown, hts⟩ hK hO hw (ct_X5_many hL S hI p1 hst _ (wk.hA hw hA)) (cwV 1 hts (gB_V w_ml_L_62 w_im_X5_many w_se_X5_many w_in_X5 w_co_X5_many) rfl rfl rfl (by decide +kernel) ⟨Nat.le_of_ble_eq_true rfl, Nat.le_of_ble_eq_true rfl⟩) (hL 0 0 rfl) cke_0 rfl rfl hl.1 rfl (Nat.le_of_ble_eq_true rfl) dL_many_4 ⟨Nat.le_of_ble_eq_true rfl, Nat.le_of_ble_eq_true rfl⟩) (fun E cx q9 H locs hx9 hw hcx hvx hclx => ?_) (fun H locs hc0 hw => ?_)
  · rcases hx9 with ⟨hk, rfl⟩ | ⟨hk, rfl⟩ | ⟨hk, rfl⟩
    · exact absurd hk (cd_many_1 S p1)
    · refine vx_catch hown (name := "java/lang/IllegalArgumentException") [] ⟨0, 9, 12, 13⟩ [] (htab.trans rfl) (fun z hz => nomatch hz) (by decide) (by decide) (hts _ w_cl_L_13) ((hO.2.2.1 _ w_cc_2).use rfl) hcx hvx hclx ?_
      refine lv_astore_n (lv' := [(3, .ref q9), (0, .ref (ad 0 0)), (1, .int p1), (2, .ref (ad 90 0))]) hx hb dL_many_12 rfl hl (by decide) rfl (fun ls hl => ?_)
      refine lv_iconst (v := 1) hx hb dL_many_13 (by decide) ?_
      refine k_iretW hx hb hr hlocks rfl hw (by rw [hk]; rfl) ?_ (Nat.le_of_ble_eq_true rfl) (Nat.le_of_ble_eq_true rfl) dL_many_14
      rw [hk]
      exact out_same ho
    · exact absurd hk (cd_many_3 S p1)
  · refine lv_i2l (v := (sp_X5_many S p1).2.toInt64) hx hb dL_many_7 rfl ?_
    refine k_last hx hb hK hw hm 1 ((cK_ou (by decide)).trans ho) rfl (vp_in_nI (n := 0) (N := 1) (by decide) (by decide)) (cK_out (by decide)) dL_many_8 (fun H locs hw => ?_)
    refine lv_goto (tgt := 15) hx hb dL_many_9 (by decide) ?_
    refine lv_iconst (v := 0) hx hb dL_many_15 (by decide) ?_
    refine k_iretW hx hb hr hlocks rfl hw (by rw [hc0]; rfl) ?_ (Nat.le_of_ble_eq_true rfl) (Nat.le_of_ble_eq_true rfl) dL_many_16
    rw [hc0]
    rfl

def wc_rightOn (k : Nat) : Int32 := if k = 1 then 1 else 0
abbrev bw_L_rightOn : List Cond := .codeWith yL_rightOn cL_rightOn 5 (some .int) [(0, 10, 13, 21)] :: BIG
abbrev rm_L_rightOn : Room := { frames := 8, cells := 2, slots := 12, locals := 139 }
theorem cd_rightOn_2 (S : (Nat → Nat → Nat → Int32)) (p1 : Int32) (p2 : Int32) : ¬ (sp_X5_rightOn S p1 p2).1 = 2 := by
  rw [un_X5_rightOn]
  unfold rw_X5_rightOn
  repeat' split
  all_goals first | exact (by decide : ¬ (0 : Nat) = 2) | exact (by decide : ¬ (1 : Nat) = 2) | exact (by decide : ¬ (3 : Nat) = 2) | exact cd_joinerAt_2 _ _
theorem cd_rightOn_3 (S : (Nat → Nat → Nat → Int32)) (p1 : Int32) (p2 : Int32) : ¬ (sp_X5_rightOn S p1 p2).1 = 3 := by
  rw [un_X5_rightOn]
  unfold rw_X5_rightOn
  repeat' split
  all_goals first | exact (by decide : ¬ (0 : Nat) = 3) | exact (by decide : ¬ (1 : Nat) = 3) | exact (by decide : ¬ (2 : Nat) = 3) | exact cd_joinerAt_3 _ _
set_option maxHeartbeats 1000000 in
theorem ct_L_rightOn {l : Launch} {D : va_G} {cI cG cJ cO : ClassId} {K0 : Nat → Nat} {A : Nat → Prop} {L : List (Nat × Nat)} {ad : Nat → Nat → Nat} {ce : Nat → Nat → va_E} (hL : ∀ f o, cid f o = true → (f, o) ∈ L) (S : (Nat → Nat → Nat → Int32)) (hI : CI S) (p1 : Int32) (p2 : Int32) (hst : l.stackTraces = false) {g : Nat → Int64} (hm : (90, 0) ∈ L) (ho : ce 90 0 = .inl (cG, 1, .inr (.inl g))) (sz : Nat) (hA : ∀ q, sz ≤ q → A q) : Met l yL_rightOn bw_L_rightOn rm_L_rightOn (kP D (ktys cI cG cJ cO) K0 A L ad (cK cI cJ ad ce S) sz [.ref (ad 0 0), .int p1, .int p2, .ref (ad 90 0)]) (kQi D A (wc_rightOn (sp_X5_rightOn S p1 p2).1) L ad (cK cI cJ ad (up2 ce 90 0 (.inl (cG, 1, .inr (.inl (wg (sp_X5_rightOn S p1 p2).1 (sp_X5_rightOn S p1 p2).2.1 g))))) (wS (sp_X5_rightOn S p1 p2).1 S (sp_X5_rightOn S p1 p2).2.2))) 2 12 A := by
  refine va_MetW (cc := cL_rightOn) (maxL := 5) (ret := some .int) (hh := [(0, 10, 13, 21)]) (by decide) rfl ?_
  intro p e s m args below meth c s₁ B hml hv
  obtain ⟨hav, hsz, hP, hD, hK, hO⟩ := hv
  have hx := B.exec
  have hb := B.bytes
  have hr := B.returns
  have hts : ∀ w ∈ BIG, w.before args s = true := fun w h => atoms_spec (ws := bw_L_rightOn) B.pre w (List.mem_cons_of_mem _ h)
  have htab := vx_table (x := yL_rightOn) B (atoms_spec (ws := bw_L_rightOn) B.pre _ List.mem_cons_self)
  have hown : s.vm.findClass RL = some m.cls := findClass_of_methodNamed B.named
  have hlocks := B.notSynchronized
  subst hsz
  have hw := wk.start hP hD
  refine k_start (by rfl) hav (Nat.le_of_ble_eq_true rfl) (fun ls hl => ?_)
  have hl : lv_has ls 5 [(0, .ref (ad 0 0)), (1, .int p1), (2, .int p2), (3, .ref (ad 90 0))] := hl
  refine lv_aload_n hx hb dL_rightOn_0 rfl (lv_at hl 3 rfl) ?_
  refine lv_iconst (v := 0) hx hb dL_rightOn_1 (by decide) ?_
  refine lv_aload_n hx hb dL_rightOn_2 rfl (lv_at hl 0 rfl) ?_
  refine lv_iload_n hx hb dL_rightOn_3 rfl (lv_at hl 1 rfl) ?_
  refine lv_iload_n hx hb dL_rightOn_4 rfl (lv_at hl 2 rfl) ?_
  refine x_ci hw (x_rV (f := 0) (o := 0) (As := [.int p1, .int p2]) (rest := [.int 0, .ref (ad 90 0)]) ⟨hx, hb, hml, hown, hts⟩ hK hO hw (ct_X5_rightOn hL S hI p1 p2 hst _ (wk.hA hw hA)) (cwV 2 hts (gB_V w_ml_L_65 w_im_X5_rightOn w_se_X5_rightOn w_in_X5 w_co_X5_rightOn) rfl rfl rfl (by decide +kernel) ⟨Nat.le_of_ble_eq_true rfl, Nat.le_of_ble_eq_true rfl⟩) (hL 0 0 rfl) cke_0 rfl rfl hl.1 rfl (Nat.le_of_ble_eq_true rfl) dL_rightOn_5 ⟨Nat.le_of_ble_eq_true rfl, Nat.le_of_ble_eq_true rfl⟩) (fun E cx q9 H locs hx9 hw hcx hvx hclx => ?_) (fun H locs hc0 hw => ?_)
  · rcases hx9 with ⟨hk, rfl⟩ | ⟨hk, rfl⟩ | ⟨hk, rfl⟩
    · refine vx_catch hown (name := "java/lang/IndexOutOfBoundsException") [] ⟨0, 10, 13, 21⟩ [] (htab.trans rfl) (fun z hz => nomatch hz) (by decide) (by decide) (hts _ w_cl_L_21) ((hO.2.2.1 _ w_cc_1).use rfl) hcx hvx hclx ?_
      refine lv_astore (lv' := [(4, .ref q9), (0, .ref (ad 0 0)), (1, .int p1), (2, .int p2), (3, .ref (ad 90 0))]) hx hb dL_rightOn_13 hl (by decide) rfl (fun ls hl => ?_)
      refine lv_iconst (v := 1) hx hb dL_rightOn_15 (by decide) ?_
      refine k_iretW hx hb hr hlocks rfl hw (by rw [hk]; rfl) ?_ (Nat.le_of_ble_eq_true rfl) (Nat.le_of_ble_eq_true rfl) dL_rightOn_16
      rw [hk]
      exact out_same ho
    · exact absurd hk (cd_rightOn_2 S p1 p2)
    · exact absurd hk (cd_rightOn_3 S p1 p2)
  · refine lv_i2l (v := (sp_X5_rightOn S p1 p2).2.1.toInt64) hx hb dL_rightOn_8 rfl ?_
    refine k_last hx hb hK hw hm 1 ((cK_ou (by decide)).trans ho) rfl (vp_in_nI (n := 0) (N := 1) (by decide) (by decide)) (cK_out (by decide)) dL_rightOn_9 (fun H locs hw => ?_)
    refine lv_goto (tgt := 17) hx hb dL_rightOn_10 (by decide) ?_
    refine lv_iconst (v := 0) hx hb dL_rightOn_17 (by decide) ?_
    refine k_iretW hx hb hr hlocks rfl hw (by rw [hc0]; rfl) ?_ (Nat.le_of_ble_eq_true rfl) (Nat.le_of_ble_eq_true rfl) dL_rightOn_18
    rw [hc0]
    rfl

def wc_shiftBy (k : Nat) : Int32 := if k = 1 then 1 else if k = 2 then 2 else if k = 3 then 3 else 0
abbrev bw_L_shiftBy : List Cond := .codeWith yL_shiftBy cL_shiftBy 5 (some .int) [(0, 10, 13, 21), (0, 10, 17, 13), (0, 10, 21, 15)] :: BIG
abbrev rm_L_shiftBy : Room := { frames := 8, cells := 2, slots := 12, locals := 143 }
set_option maxHeartbeats 1000000 in
theorem ct_L_shiftBy {l : Launch} {D : va_G} {cI cG cJ cO : ClassId} {K0 : Nat → Nat} {A : Nat → Prop} {L : List (Nat × Nat)} {ad : Nat → Nat → Nat} {ce : Nat → Nat → va_E} (hL : ∀ f o, cid f o = true → (f, o) ∈ L) (S : (Nat → Nat → Nat → Int32)) (hI : CI S) (p1 : Int32) (p2 : Int32) (hst : l.stackTraces = false) {g : Nat → Int64} (hm : (90, 0) ∈ L) (ho : ce 90 0 = .inl (cG, 1, .inr (.inl g))) (sz : Nat) (hA : ∀ q, sz ≤ q → A q) : Met l yL_shiftBy bw_L_shiftBy rm_L_shiftBy (kP D (ktys cI cG cJ cO) K0 A L ad (cK cI cJ ad ce S) sz [.ref (ad 0 0), .int p1, .int p2, .ref (ad 90 0)]) (kQi D A (wc_shiftBy (sp_X5_shiftBy S p1 p2).1) L ad (cK cI cJ ad (up2 ce 90 0 (.inl (cG, 1, .inr (.inl (wg (sp_X5_shiftBy S p1 p2).1 (sp_X5_shiftBy S p1 p2).2.1 g))))) (wS (sp_X5_shiftBy S p1 p2).1 S (sp_X5_shiftBy S p1 p2).2.2))) 2 12 A := by
  refine va_MetW (cc := cL_shiftBy) (maxL := 5) (ret := some .int) (hh := [(0, 10, 13, 21), (0, 10, 17, 13), (0, 10, 21, 15)]) (by decide) rfl ?_
  intro p e s m args below meth c s₁ B hml hv
  obtain ⟨hav, hsz, hP, hD, hK, hO⟩ := hv
  have hx := B.exec
  have hb := B.bytes
  have hr := B.returns
  have hts : ∀ w ∈ BIG, w.before args s = true := fun w h => atoms_spec (ws := bw_L_shiftBy) B.pre w (List.mem_cons_of_mem _ h)
  have htab := vx_table (x := yL_shiftBy) B (atoms_spec (ws := bw_L_shiftBy) B.pre _ List.mem_cons_self)
  have hown : s.vm.findClass RL = some m.cls := findClass_of_methodNamed B.named
  have hlocks := B.notSynchronized
  subst hsz
  have hw := wk.start hP hD
  refine k_start (by rfl) hav (Nat.le_of_ble_eq_true rfl) (fun ls hl => ?_)
  have hl : lv_has ls 5 [(0, .ref (ad 0 0)), (1, .int p1), (2, .int p2), (3, .ref (ad 90 0))] := hl
  refine lv_aload_n hx hb dL_shiftBy_0 rfl (lv_at hl 3 rfl) ?_
  refine lv_iconst (v := 0) hx hb dL_shiftBy_1 (by decide) ?_
  refine lv_aload_n hx hb dL_shiftBy_2 rfl (lv_at hl 0 rfl) ?_
  refine lv_iload_n hx hb dL_shiftBy_3 rfl (lv_at hl 1 rfl) ?_
  refine lv_iload_n hx hb dL_shiftBy_4 rfl (lv_at hl 2 rfl) ?_
  refine x_ci hw (x_rV (f := 0) (o := 0) (As := [.int p1, .int p2]) (rest := [.int 0, .ref (ad 90 0)]) ⟨hx, hb, hml, hown, hts⟩ hK hO hw (ct_X5_shiftBy hL S hI p1 p2 hst _ (wk.hA hw hA)) (cwV 2 hts (gB_V w_ml_L_68 w_im_X5_shiftBy w_se_X5_shiftBy w_in_X5 w_co_X5_shiftBy) rfl rfl rfl (by decide +kernel) ⟨Nat.le_of_ble_eq_true rfl, Nat.le_of_ble_eq_true rfl⟩) (hL 0 0 rfl) cke_0 rfl rfl hl.1 rfl (Nat.le_of_ble_eq_true rfl) dL_shiftBy_5 ⟨Nat.le_of_ble_eq_true rfl, Nat.le_of_ble_eq_true rfl⟩) (fun E cx q9 H locs hx9 hw hcx hvx hclx => ?_) (fun H locs hc0 hw => ?_)
  · rcases hx9 with ⟨hk, rfl⟩ | ⟨hk, rfl⟩ | ⟨hk, rfl⟩
    · refine vx_catch hown (name := "java/lang/IndexOutOfBoundsException") [] ⟨0, 10, 13, 21⟩ [⟨0, 10, 17, 13⟩, ⟨0, 10, 21, 15⟩] (htab.trans rfl) (fun z hz => nomatch hz) (by decide) (by decide) (hts _ w_cl_L_21) ((hO.2.2.1 _ w_cc_1).use rfl) hcx hvx hclx ?_
      refine lv_astore (lv' := [(4, .ref q9), (0, .ref (ad 0 0)), (1, .int p1), (2, .int p2), (3, .ref (ad 90 0))]) hx hb dL_shiftBy_13 hl (by decide) rfl (fun ls hl => ?_)
      refine lv_iconst (v := 1) hx hb dL_shiftBy_15 (by decide) ?_
      refine k_iretW hx hb hr hlocks rfl hw (by rw [hk]; rfl) ?_ (Nat.le_of_ble_eq_true rfl) (Nat.le_of_ble_eq_true rfl) dL_shiftBy_16
      rw [hk]
      exact out_same ho
    · refine vx_catch hown (name := "java/lang/IllegalArgumentException") [⟨0, 10, 13, 21⟩] ⟨0, 10, 17, 13⟩ [⟨0, 10, 21, 15⟩] (htab.trans rfl) (fun z hz => by
        simp only [List.mem_cons, List.not_mem_nil, or_false] at hz
        rcases hz with rfl
        · exact Or.inr ⟨by decide, "java/lang/IndexOutOfBoundsException", hts _ w_cl_L_21, hO.2.2.2.2.2.2.2 ("java/lang/IllegalArgumentException", "java/lang/IndexOutOfBoundsException") (by decide)⟩
      ) (by decide) (by decide) (hts _ w_cl_L_13) ((hO.2.2.1 _ w_cc_2).use rfl) hcx hvx hclx ?_
      refine lv_astore (lv' := [(4, .ref q9), (0, .ref (ad 0 0)), (1, .int p1), (2, .int p2), (3, .ref (ad 90 0))]) hx hb dL_shiftBy_17 hl (by decide) rfl (fun ls hl => ?_)
      refine lv_iconst (v := 2) hx hb dL_shiftBy_19 (by decide) ?_
      refine k_iretW hx hb hr hlocks rfl hw (by rw [hk]; rfl) ?_ (Nat.le_of_ble_eq_true rfl) (Nat.le_of_ble_eq_true rfl) dL_shiftBy_20
      rw [hk]
      exact out_same ho
    · refine vx_catch hown (name := "java/lang/IllegalStateException") [⟨0, 10, 13, 21⟩, ⟨0, 10, 17, 13⟩] ⟨0, 10, 21, 15⟩ [] (htab.trans rfl) (fun z hz => by
        simp only [List.mem_cons, List.not_mem_nil, or_false] at hz
        rcases hz with rfl | rfl
        · exact Or.inr ⟨by decide, "java/lang/IndexOutOfBoundsException", hts _ w_cl_L_21, hO.2.2.2.2.2.2.2 ("java/lang/IllegalStateException", "java/lang/IndexOutOfBoundsException") (by decide)⟩
        · exact Or.inr ⟨by decide, "java/lang/IllegalArgumentException", hts _ w_cl_L_13, hO.2.2.2.2.2.2.2 ("java/lang/IllegalStateException", "java/lang/IllegalArgumentException") (by decide)⟩
      ) (by decide) (by decide) (hts _ w_cl_L_15) ((hO.2.2.1 _ w_cc_3).use rfl) hcx hvx hclx ?_
      refine lv_astore (lv' := [(4, .ref q9), (0, .ref (ad 0 0)), (1, .int p1), (2, .int p2), (3, .ref (ad 90 0))]) hx hb dL_shiftBy_21 hl (by decide) rfl (fun ls hl => ?_)
      refine lv_iconst (v := 3) hx hb dL_shiftBy_23 (by decide) ?_
      refine k_iretW hx hb hr hlocks rfl hw (by rw [hk]; rfl) ?_ (Nat.le_of_ble_eq_true rfl) (Nat.le_of_ble_eq_true rfl) dL_shiftBy_24
      rw [hk]
      exact out_same ho
  · refine lv_i2l (v := (sp_X5_shiftBy S p1 p2).2.1.toInt64) hx hb dL_shiftBy_8 rfl ?_
    refine k_last hx hb hK hw hm 1 ((cK_ou (by decide)).trans ho) rfl (vp_in_nI (n := 0) (N := 1) (by decide) (by decide)) (cK_out (by decide)) dL_shiftBy_9 (fun H locs hw => ?_)
    refine lv_goto (tgt := 25) hx hb dL_shiftBy_10 (by decide) ?_
    refine lv_iconst (v := 0) hx hb dL_shiftBy_25 (by decide) ?_
    refine k_iretW hx hb hr hlocks rfl hw (by rw [hc0]; rfl) ?_ (Nat.le_of_ble_eq_true rfl) (Nat.le_of_ble_eq_true rfl) dL_shiftBy_26
    rw [hc0]
    rfl

def wc_next (k : Nat) : Int32 := if k = 1 then 1 else 0
abbrev bw_L_next : List Cond := .codeWith yL_next cL_next 4 (some .int) [(0, 9, 12, 21)] :: BIG
abbrev rm_L_next : Room := { frames := 8, cells := 2, slots := 12, locals := 133 }
theorem cd_next_2 (S : (Nat → Nat → Nat → Int32)) (p1 : Int32) : ¬ (sp_X5_next S p1).1 = 2 := by
  unfold sp_X5_next
  repeat' split
  all_goals first | exact (by decide : ¬ (0 : Nat) = 2) | exact (by decide : ¬ (1 : Nat) = 2) | exact (by decide : ¬ (3 : Nat) = 2) | exact cd_joinerAt_2 _ _
theorem cd_next_3 (S : (Nat → Nat → Nat → Int32)) (p1 : Int32) : ¬ (sp_X5_next S p1).1 = 3 := by
  unfold sp_X5_next
  repeat' split
  all_goals first | exact (by decide : ¬ (0 : Nat) = 3) | exact (by decide : ¬ (1 : Nat) = 3) | exact (by decide : ¬ (2 : Nat) = 3) | exact cd_joinerAt_3 _ _
set_option maxHeartbeats 1000000 in
theorem ct_L_next {l : Launch} {D : va_G} {cI cG cJ cO : ClassId} {K0 : Nat → Nat} {A : Nat → Prop} {L : List (Nat × Nat)} {ad : Nat → Nat → Nat} {ce : Nat → Nat → va_E} (hL : ∀ f o, cid f o = true → (f, o) ∈ L) (S : (Nat → Nat → Nat → Int32)) (hI : CI S) (p1 : Int32) (hst : l.stackTraces = false) {g : Nat → Int64} (hm : (90, 0) ∈ L) (ho : ce 90 0 = .inl (cG, 1, .inr (.inl g))) (sz : Nat) (hA : ∀ q, sz ≤ q → A q) : Met l yL_next bw_L_next rm_L_next (kP D (ktys cI cG cJ cO) K0 A L ad (cK cI cJ ad ce S) sz [.ref (ad 0 0), .int p1, .ref (ad 90 0)]) (kQi D A (wc_next (sp_X5_next S p1).1) L ad (cK cI cJ ad (up2 ce 90 0 (.inl (cG, 1, .inr (.inl (wg (sp_X5_next S p1).1 (sp_X5_next S p1).2 g))))) (wS (sp_X5_next S p1).1 S S))) 2 12 A := by
  refine va_MetW (cc := cL_next) (maxL := 4) (ret := some .int) (hh := [(0, 9, 12, 21)]) (by decide) rfl ?_
  intro p e s m args below meth c s₁ B hml hv
  obtain ⟨hav, hsz, hP, hD, hK, hO⟩ := hv
  have hx := B.exec
  have hb := B.bytes
  have hr := B.returns
  have hts : ∀ w ∈ BIG, w.before args s = true := fun w h => atoms_spec (ws := bw_L_next) B.pre w (List.mem_cons_of_mem _ h)
  have htab := vx_table (x := yL_next) B (atoms_spec (ws := bw_L_next) B.pre _ List.mem_cons_self)
  have hown : s.vm.findClass RL = some m.cls := findClass_of_methodNamed B.named
  have hlocks := B.notSynchronized
  subst hsz
  have hw := wk.start hP hD
  refine k_start (by rfl) hav (Nat.le_of_ble_eq_true rfl) (fun ls hl => ?_)
  have hl : lv_has ls 4 [(0, .ref (ad 0 0)), (1, .int p1), (2, .ref (ad 90 0))] := hl
  refine lv_aload_n hx hb dL_next_0 rfl (lv_at hl 2 rfl) ?_
  refine lv_iconst (v := 0) hx hb dL_next_1 (by decide) ?_
  refine lv_aload_n hx hb dL_next_2 rfl (lv_at hl 0 rfl) ?_
  refine lv_iload_n hx hb dL_next_3 rfl (lv_at hl 1 rfl) ?_
  refine x_ci hw (x_rV (f := 0) (o := 0) (As := [.int p1]) (rest := [.int 0, .ref (ad 90 0)]) ⟨hx, hb, hml, hown, hts⟩ hK hO hw (ct_X5_next hL S hI p1 hst _ (wk.hA hw hA)) (cwV 1 hts (gB_V w_ml_L_71 w_im_X5_next w_se_X5_next w_in_X5 w_co_X5_next) rfl rfl rfl (by decide +kernel) ⟨Nat.le_of_ble_eq_true rfl, Nat.le_of_ble_eq_true rfl⟩) (hL 0 0 rfl) cke_0 rfl rfl hl.1 rfl (Nat.le_of_ble_eq_true rfl) dL_next_4 ⟨Nat.le_of_ble_eq_true rfl, Nat.le_of_ble_eq_true rfl⟩) (fun E cx q9 H locs hx9 hw hcx hvx hclx => ?_) (fun H locs hc0 hw => ?_)
  · rcases hx9 with ⟨hk, rfl⟩ | ⟨hk, rfl⟩ | ⟨hk, rfl⟩
    · refine vx_catch hown (name := "java/lang/IndexOutOfBoundsException") [] ⟨0, 9, 12, 21⟩ [] (htab.trans rfl) (fun z hz => nomatch hz) (by decide) (by decide) (hts _ w_cl_L_21) ((hO.2.2.1 _ w_cc_1).use rfl) hcx hvx hclx ?_
      refine lv_astore_n (lv' := [(3, .ref q9), (0, .ref (ad 0 0)), (1, .int p1), (2, .ref (ad 90 0))]) hx hb dL_next_12 rfl hl (by decide) rfl (fun ls hl => ?_)
      refine lv_iconst (v := 1) hx hb dL_next_13 (by decide) ?_
      refine k_iretW hx hb hr hlocks rfl hw (by rw [hk]; rfl) ?_ (Nat.le_of_ble_eq_true rfl) (Nat.le_of_ble_eq_true rfl) dL_next_14
      rw [hk]
      exact out_same ho
    · exact absurd hk (cd_next_2 S p1)
    · exact absurd hk (cd_next_3 S p1)
  · refine lv_i2l (v := (sp_X5_next S p1).2.toInt64) hx hb dL_next_7 rfl ?_
    refine k_last hx hb hK hw hm 1 ((cK_ou (by decide)).trans ho) rfl (vp_in_nI (n := 0) (N := 1) (by decide) (by decide)) (cK_out (by decide)) dL_next_8 (fun H locs hw => ?_)
    refine lv_goto (tgt := 15) hx hb dL_next_9 (by decide) ?_
    refine lv_iconst (v := 0) hx hb dL_next_15 (by decide) ?_
    refine k_iretW hx hb hr hlocks rfl hw (by rw [hc0]; rfl) ?_ (Nat.le_of_ble_eq_true rfl) (Nat.le_of_ble_eq_true rfl) dL_next_16
    rw [hc0]
    rfl

def wc_waitFor (k : Nat) : Int32 := if k = 1 then 1 else 0
abbrev bw_L_waitFor : List Cond := .codeWith yL_waitFor cL_waitFor 5 (some .int) [(0, 10, 13, 21)] :: BIG
abbrev rm_L_waitFor : Room := { frames := 8, cells := 2, slots := 12, locals := 135 }
theorem cd_waitFor_2 (S : (Nat → Nat → Nat → Int32)) (p1 : Int32) (p2 : Int32) : ¬ (sp_X5_waitFor S p1 p2).1 = 2 := by
  unfold sp_X5_waitFor
  repeat' split
  all_goals first | exact (by decide : ¬ (0 : Nat) = 2) | exact (by decide : ¬ (1 : Nat) = 2) | exact (by decide : ¬ (3 : Nat) = 2) | exact cd_joinerAt_2 _ _
theorem cd_waitFor_3 (S : (Nat → Nat → Nat → Int32)) (p1 : Int32) (p2 : Int32) : ¬ (sp_X5_waitFor S p1 p2).1 = 3 := by
  unfold sp_X5_waitFor
  repeat' split
  all_goals first | exact (by decide : ¬ (0 : Nat) = 3) | exact (by decide : ¬ (1 : Nat) = 3) | exact (by decide : ¬ (2 : Nat) = 3) | exact cd_joinerAt_3 _ _
set_option maxHeartbeats 1000000 in
theorem ct_L_waitFor {l : Launch} {D : va_G} {cI cG cJ cO : ClassId} {K0 : Nat → Nat} {A : Nat → Prop} {L : List (Nat × Nat)} {ad : Nat → Nat → Nat} {ce : Nat → Nat → va_E} (hL : ∀ f o, cid f o = true → (f, o) ∈ L) (S : (Nat → Nat → Nat → Int32)) (hI : CI S) (p1 : Int32) (p2 : Int32) (hst : l.stackTraces = false) {g : Nat → Int64} (hm : (90, 0) ∈ L) (ho : ce 90 0 = .inl (cG, 1, .inr (.inl g))) (sz : Nat) (hA : ∀ q, sz ≤ q → A q) : Met l yL_waitFor bw_L_waitFor rm_L_waitFor (kP D (ktys cI cG cJ cO) K0 A L ad (cK cI cJ ad ce S) sz [.ref (ad 0 0), .int p1, .int p2, .ref (ad 90 0)]) (kQi D A (wc_waitFor (sp_X5_waitFor S p1 p2).1) L ad (cK cI cJ ad (up2 ce 90 0 (.inl (cG, 1, .inr (.inl (wg (sp_X5_waitFor S p1 p2).1 (sp_X5_waitFor S p1 p2).2 g))))) (wS (sp_X5_waitFor S p1 p2).1 S S))) 2 12 A := by
  refine va_MetW (cc := cL_waitFor) (maxL := 5) (ret := some .int) (hh := [(0, 10, 13, 21)]) (by decide) rfl ?_
  intro p e s m args below meth c s₁ B hml hv
  obtain ⟨hav, hsz, hP, hD, hK, hO⟩ := hv
  have hx := B.exec
  have hb := B.bytes
  have hr := B.returns
  have hts : ∀ w ∈ BIG, w.before args s = true := fun w h => atoms_spec (ws := bw_L_waitFor) B.pre w (List.mem_cons_of_mem _ h)
  have htab := vx_table (x := yL_waitFor) B (atoms_spec (ws := bw_L_waitFor) B.pre _ List.mem_cons_self)
  have hown : s.vm.findClass RL = some m.cls := findClass_of_methodNamed B.named
  have hlocks := B.notSynchronized
  subst hsz
  have hw := wk.start hP hD
  refine k_start (by rfl) hav (Nat.le_of_ble_eq_true rfl) (fun ls hl => ?_)
  have hl : lv_has ls 5 [(0, .ref (ad 0 0)), (1, .int p1), (2, .int p2), (3, .ref (ad 90 0))] := hl
  refine lv_aload_n hx hb dL_waitFor_0 rfl (lv_at hl 3 rfl) ?_
  refine lv_iconst (v := 0) hx hb dL_waitFor_1 (by decide) ?_
  refine lv_aload_n hx hb dL_waitFor_2 rfl (lv_at hl 0 rfl) ?_
  refine lv_iload_n hx hb dL_waitFor_3 rfl (lv_at hl 1 rfl) ?_
  refine lv_iload_n hx hb dL_waitFor_4 rfl (lv_at hl 2 rfl) ?_
  refine x_ci hw (x_rV (f := 0) (o := 0) (As := [.int p1, .int p2]) (rest := [.int 0, .ref (ad 90 0)]) ⟨hx, hb, hml, hown, hts⟩ hK hO hw (ct_X5_waitFor hL S hI p1 p2 hst _ (wk.hA hw hA)) (cwV 2 hts (gB_V w_ml_L_74 w_im_X5_waitFor w_se_X5_waitFor w_in_X5 w_co_X5_waitFor) rfl rfl rfl (by decide +kernel) ⟨Nat.le_of_ble_eq_true rfl, Nat.le_of_ble_eq_true rfl⟩) (hL 0 0 rfl) cke_0 rfl rfl hl.1 rfl (Nat.le_of_ble_eq_true rfl) dL_waitFor_5 ⟨Nat.le_of_ble_eq_true rfl, Nat.le_of_ble_eq_true rfl⟩) (fun E cx q9 H locs hx9 hw hcx hvx hclx => ?_) (fun H locs hc0 hw => ?_)
  · rcases hx9 with ⟨hk, rfl⟩ | ⟨hk, rfl⟩ | ⟨hk, rfl⟩
    · refine vx_catch hown (name := "java/lang/IndexOutOfBoundsException") [] ⟨0, 10, 13, 21⟩ [] (htab.trans rfl) (fun z hz => nomatch hz) (by decide) (by decide) (hts _ w_cl_L_21) ((hO.2.2.1 _ w_cc_1).use rfl) hcx hvx hclx ?_
      refine lv_astore (lv' := [(4, .ref q9), (0, .ref (ad 0 0)), (1, .int p1), (2, .int p2), (3, .ref (ad 90 0))]) hx hb dL_waitFor_13 hl (by decide) rfl (fun ls hl => ?_)
      refine lv_iconst (v := 1) hx hb dL_waitFor_15 (by decide) ?_
      refine k_iretW hx hb hr hlocks rfl hw (by rw [hk]; rfl) ?_ (Nat.le_of_ble_eq_true rfl) (Nat.le_of_ble_eq_true rfl) dL_waitFor_16
      rw [hk]
      exact out_same ho
    · exact absurd hk (cd_waitFor_2 S p1 p2)
    · exact absurd hk (cd_waitFor_3 S p1 p2)
  · refine lv_i2l (v := (sp_X5_waitFor S p1 p2).2.toInt64) hx hb dL_waitFor_8 rfl ?_
    refine k_last hx hb hK hw hm 1 ((cK_ou (by decide)).trans ho) rfl (vp_in_nI (n := 0) (N := 1) (by decide) (by decide)) (cK_out (by decide)) dL_waitFor_9 (fun H locs hw => ?_)
    refine lv_goto (tgt := 17) hx hb dL_waitFor_10 (by decide) ?_
    refine lv_iconst (v := 0) hx hb dL_waitFor_17 (by decide) ?_
    refine k_iretW hx hb hr hlocks rfl hw (by rw [hc0]; rfl) ?_ (Nat.le_of_ble_eq_true rfl) (Nat.le_of_ble_eq_true rfl) dL_waitFor_18
    rw [hc0]
    rfl
