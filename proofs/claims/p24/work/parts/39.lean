abbrev bw_X5_digest : List Cond := .code yX5_digest cX5_digest 5 (some .long) :: BIG
abbrev rm_X5_digest : Room := { frames := 6, cells := 0, slots := 0, locals := 143 }
noncomputable def lp_X5_digest_125 : Nat → Nat → Int64 → (Nat → Nat → Nat → Int32) → Int64 × (Nat → Nat → Nat → Int32)
  | 0, i, v1, Sx => (v1, Sx)
  | k + 1, i, v1, Sx => lp_X5_digest_125 k (i + 1) ((sp_X5_digestWith Sx i v1).1) ((sp_X5_digestWith Sx i v1).2)
theorem lz_lp_X5_digest_125 (i : Nat) (v1 : Int64) (Sx : (Nat → Nat → Nat → Int32)) : lp_X5_digest_125 0 i v1 Sx = (v1, Sx) := rfl
theorem ls_lp_X5_digest_125 (k i : Nat) (v1 : Int64) (Sx : (Nat → Nat → Nat → Int32)) : lp_X5_digest_125 (k + 1) i v1 Sx = lp_X5_digest_125 k (i + 1) ((sp_X5_digestWith Sx i v1).1) ((sp_X5_digestWith Sx i v1).2) := rfl
theorem sfl_lp_X5_digest_125 : ∀ (k i : Nat) (v1 : Int64) (Sx T : (Nat → Nat → Nat → Int32)), SF T Sx → SF T ((lp_X5_digest_125 k i v1 Sx).2) := by
  intro k
  induction k with
  | zero => intro i v1 Sx T h; exact h
  | succ k ih => 
    intro i v1 Sx T h
    unfold lp_X5_digest_125
    exact ih (i + 1) ((sp_X5_digestWith Sx i v1).1) ((sp_X5_digestWith Sx i v1).2) T (SF.tr h (sf_X5_digestWith Sx i v1))

noncomputable def lp_X5_digest_90 (S : (Nat → Nat → Nat → Int32)) (k : Nat) (i : Nat) (v1 : Int64) : Nat → Nat → Int64 → Int64
  | 0, ib, v1b => (v1b)
  | kb + 1, ib, v1b => lp_X5_digest_90 S k i v1 kb (ib + 1) ((v1b * 31) + ((sp_X5_ofSession_n S (nI i) (nI ib)).toInt64))
theorem lz_lp_X5_digest_90 (S : (Nat → Nat → Nat → Int32)) (k : Nat) (i : Nat) (v1 : Int64) (ib : Nat) (v1b : Int64) : lp_X5_digest_90 S k i v1 0 ib v1b = (v1b) := rfl
theorem ls_lp_X5_digest_90 (S : (Nat → Nat → Nat → Int32)) (k : Nat) (i : Nat) (v1 : Int64) (kb ib : Nat) (v1b : Int64) : lp_X5_digest_90 S k i v1 (kb + 1) ib v1b = lp_X5_digest_90 S k i v1 kb (ib + 1) ((v1b * 31) + ((sp_X5_ofSession_n S (nI i) (nI ib)).toInt64)) := rfl
noncomputable def lp_X5_digest_76 (S : (Nat → Nat → Nat → Int32)) : Nat → Nat → Int64 → Int64
  | 0, i, v1 => (v1)
  | k + 1, i, v1 => lp_X5_digest_76 S k (i + 1) (lp_X5_digest_90 S k i v1 4 0 v1)
theorem lz_lp_X5_digest_76 (S : (Nat → Nat → Nat → Int32)) (i : Nat) (v1 : Int64) : lp_X5_digest_76 S 0 i v1 = (v1) := rfl
theorem ls_lp_X5_digest_76 (S : (Nat → Nat → Nat → Int32)) (k i : Nat) (v1 : Int64) : lp_X5_digest_76 S (k + 1) i v1 = lp_X5_digest_76 S k (i + 1) (lp_X5_digest_90 S k i v1 4 0 v1) := rfl
noncomputable def lp_X5_digest_41 (S : (Nat → Nat → Nat → Int32)) (k : Nat) (i : Nat) (v1 : Int64) : Nat → Nat → Int64 → Int64
  | 0, ib, v1b => (v1b)
  | kb + 1, ib, v1b => lp_X5_digest_41 S k i v1 kb (ib + 1) ((v1b * 31) + ((sp_X5_ofItem_n S (nI i) (nI ib)).toInt64))
theorem lz_lp_X5_digest_41 (S : (Nat → Nat → Nat → Int32)) (k : Nat) (i : Nat) (v1 : Int64) (ib : Nat) (v1b : Int64) : lp_X5_digest_41 S k i v1 0 ib v1b = (v1b) := rfl
theorem ls_lp_X5_digest_41 (S : (Nat → Nat → Nat → Int32)) (k : Nat) (i : Nat) (v1 : Int64) (kb ib : Nat) (v1b : Int64) : lp_X5_digest_41 S k i v1 (kb + 1) ib v1b = lp_X5_digest_41 S k i v1 kb (ib + 1) ((v1b * 31) + ((sp_X5_ofItem_n S (nI i) (nI ib)).toInt64)) := rfl
noncomputable def lp_X5_digest_33 (S : (Nat → Nat → Nat → Int32)) : Nat → Nat → Int64 → Int64
  | 0, i, v1 => (v1)
  | k + 1, i, v1 => lp_X5_digest_33 S k (i + 1) (lp_X5_digest_41 S k i v1 4 0 v1)
theorem lz_lp_X5_digest_33 (S : (Nat → Nat → Nat → Int32)) (i : Nat) (v1 : Int64) : lp_X5_digest_33 S 0 i v1 = (v1) := rfl
theorem ls_lp_X5_digest_33 (S : (Nat → Nat → Nat → Int32)) (k i : Nat) (v1 : Int64) : lp_X5_digest_33 S (k + 1) i v1 = lp_X5_digest_33 S k (i + 1) (lp_X5_digest_41 S k i v1 4 0 v1) := rfl
noncomputable def lp_X5_digest_6 (S : (Nat → Nat → Nat → Int32)) : Nat → Nat → Int64 → Int64
  | 0, i, v1 => (v1)
  | k + 1, i, v1 => lp_X5_digest_6 S k (i + 1) ((v1 * 31) + ((sp_X5_many_n S (nI i)).toInt64))
theorem lz_lp_X5_digest_6 (S : (Nat → Nat → Nat → Int32)) (i : Nat) (v1 : Int64) : lp_X5_digest_6 S 0 i v1 = (v1) := rfl
theorem ls_lp_X5_digest_6 (S : (Nat → Nat → Nat → Int32)) (k i : Nat) (v1 : Int64) : lp_X5_digest_6 S (k + 1) i v1 = lp_X5_digest_6 S k (i + 1) ((v1 * 31) + ((sp_X5_many_n S (nI i)).toInt64)) := rfl
noncomputable def rw_X5_digest (S : (Nat → Nat → Nat → Int32)) : Int64 × (Nat → Nat → Nat → Int32) := ((lp_X5_digest_125 ((S 0 0 0).toNatClampNeg) 0 (lp_X5_digest_76 S ((S 3 0 0).toNatClampNeg) 0 (lp_X5_digest_33 S 4 0 (lp_X5_digest_6 S 11 0 58120))) S).1, (lp_X5_digest_125 ((S 0 0 0).toNatClampNeg) 0 (lp_X5_digest_76 S ((S 3 0 0).toNatClampNeg) 0 (lp_X5_digest_33 S 4 0 (lp_X5_digest_6 S 11 0 58120))) S).2)
/-- sealed: it unfolds by un_ alone -/
noncomputable def sp_X5_digest : (Nat → Nat → Nat → Int32) → (Int64 × (Nat → Nat → Nat → Int32)) := Classical.choose (⟨rw_X5_digest, rfl⟩ : ∃ f, f = rw_X5_digest)
theorem un_X5_digest (S : (Nat → Nat → Nat → Int32)) : sp_X5_digest S = rw_X5_digest S := (congrFun (Classical.choose_spec (⟨rw_X5_digest, rfl⟩ : ∃ f, f = rw_X5_digest)) S)
theorem sf_X5_digest (S : (Nat → Nat → Nat → Int32)) : SF S (sp_X5_digest S).2 := by
  rw [un_X5_digest]
  unfold rw_X5_digest
  exact (sfl_lp_X5_digest_125 ((S 0 0 0).toNatClampNeg) 0 (lp_X5_digest_76 S ((S 3 0 0).toNatClampNeg) 0 (lp_X5_digest_33 S 4 0 (lp_X5_digest_6 S 11 0 58120))) S _ (SF.rf _))

set_option maxHeartbeats 1000000 in
set_option maxRecDepth 100000 in
theorem ct_X5_digest {l : Launch} {D : va_G} {cI cG cJ cO : ClassId} {K0 : Nat → Nat} {A : Nat → Prop} {L : List (Nat × Nat)} {ad : Nat → Nat → Nat} {ce : Nat → Nat → va_E} (hL : ∀ f o, cid f o = true → (f, o) ∈ L) (S : (Nat → Nat → Nat → Int32)) (hI : CI S) (sz : Nat) (hA : ∀ q, sz ≤ q → A q) : Met l yX5_digest bw_X5_digest rm_X5_digest (kP D (ktys cI cG cJ cO) K0 A L ad (cK cI cJ ad ce S) sz [.ref (ad 0 0)]) (kQl D A (sp_X5_digest S).1 L ad (cK cI cJ ad ce (sp_X5_digest S).2)) 0 0 A := by
  refine Met.ofW (cc := cX5_digest) (maxL := 5) (ret := (some .long)) (by decide) rfl ?_
  intro p e s m args below meth c s₁ B hml hv
  obtain ⟨hav, hsz, hP, hD, hK, hO⟩ := hv
  have hx := B.exec
  have hb := B.bytes
  have hr := B.returns
  have hts : ∀ w ∈ BIG, w.before args s = true := fun w h => atoms_spec (ws := bw_X5_digest) B.pre w (List.mem_cons_of_mem _ h)
  have hown : s.vm.findClass RX5 = some m.cls := findClass_of_methodNamed B.named
  have hlocks := B.notSynchronized
  subst hsz
  have hw := wk.start hP hD
  refine k_start (by rfl) hav (Nat.le_of_ble_eq_true rfl) (fun ls hl => ?_)
  have hl : lv_has ls 5 [(0, .ref (ad 0 0))] := hl
  have hE : sp_X5_digest S = ((lp_X5_digest_125 ((S 0 0 0).toNatClampNeg) 0 (lp_X5_digest_76 S ((S 3 0 0).toNatClampNeg) 0 (lp_X5_digest_33 S 4 0 (lp_X5_digest_6 S 11 0 58120))) S).1, (lp_X5_digest_125 ((S 0 0 0).toNatClampNeg) 0 (lp_X5_digest_76 S ((S 3 0 0).toNatClampNeg) 0 (lp_X5_digest_33 S 4 0 (lp_X5_digest_6 S 11 0 58120))) S).2) := un_X5_digest S
  refine lv_ldc2 hx hb hown (hts _ w_cq_X5_286) dX5_digest_0 ?_
  refine lv_lstore_n (lv' := [(1, .long 58120), (0, .ref (ad 0 0))]) hx hb dX5_digest_3 rfl hl (by decide) rfl (fun ls hl => ?_)
  refine lv_iconst (v := 0) hx hb dX5_digest_4 (by decide) ?_
  refine lv_istore_n (lv' := [(3, .int 0), (1, .long 58120), (0, .ref (ad 0 0))]) hx hb dX5_digest_5 rfl hl (by decide) rfl (fun ls hl => ?_)
  have key_6 : ∀ (k i : Nat) (v1 : Int64) (H : Heap) (locs : List Loc) (ls : Array Slot), i + k = 11 → (lp_X5_digest_6 S 11 0 58120) = lp_X5_digest_6 S k i v1 → wk D A L ad (cK cI cJ ad ce S) s.heap H locs → lv_has ls 5 [(0, .ref (ad 0 0)), (1, .long v1), (3, .int (nI i))] → W p l e (headSpec bw_X5_digest rm_X5_digest).room s m args below meth c H locs 0 0 (MQ below (kQl D A (sp_X5_digest S).1 L ad (cK cI cJ ad ce (sp_X5_digest S).2)) args s 0 0 A) (F0 m 6 ls []) := by
    intro k
    induction k with
    | zero =>
      intro i v1 H locs ls hk hV hw hl
      have hV := hV.trans (lz_lp_X5_digest_6 S i v1)
      obtain rfl : v1 = (lp_X5_digest_6 S 11 0 58120) := hV.symm
      refine lv_iload_n hx hb dX5_digest_6 rfl (lv_at hl 2 rfl) ?_
      refine lv_bipush (v := 10) hx hb dX5_digest_7 (by decide) ?_
      refine lv_icmp_gt (tgt := 31) hx hb dX5_digest_9 (by decide) (fun _ => ?_) (fun h => absurd (lp_o' rfl hk (by decide)) h)
      refine lv_iconst (v := 0) hx hb dX5_digest_31 (by decide) ?_
      refine lv_istore_n (lv' := [(3, .int 0), (0, .ref (ad 0 0)), (1, .long (lp_X5_digest_6 S 11 0 58120))]) hx hb dX5_digest_32 rfl hl (by decide) rfl (fun ls hl => ?_)
      have key_33 : ∀ (k i : Nat) (v1 : Int64) (H : Heap) (locs : List Loc) (ls : Array Slot), i + k = 4 → (lp_X5_digest_33 S 4 0 (lp_X5_digest_6 S 11 0 58120)) = lp_X5_digest_33 S k i v1 → wk D A L ad (cK cI cJ ad ce S) s.heap H locs → lv_has ls 5 [(0, .ref (ad 0 0)), (1, .long v1), (3, .int (nI i))] → W p l e (headSpec bw_X5_digest rm_X5_digest).room s m args below meth c H locs 0 0 (MQ below (kQl D A (sp_X5_digest S).1 L ad (cK cI cJ ad ce (sp_X5_digest S).2)) args s 0 0 A) (F0 m 33 ls []) := by
        intro k
        induction k with
        | zero =>
          intro i v1 H locs ls hk hV hw hl
          have hV := hV.trans (lz_lp_X5_digest_33 S i v1)
          obtain rfl : v1 = (lp_X5_digest_33 S 4 0 (lp_X5_digest_6 S 11 0 58120)) := hV.symm
          refine lv_iload_n hx hb dX5_digest_33 rfl (lv_at hl 2 rfl) ?_
          refine lv_iconst (v := 4) hx hb dX5_digest_34 (by decide) ?_
          refine lv_icmp_ge (tgt := 74) hx hb dX5_digest_35 (by decide) (fun _ => ?_) (fun h => absurd (lp_o rfl hk (by decide)) h)
          refine lv_iconst (v := 0) hx hb dX5_digest_74 (by decide) ?_
          refine lv_istore_n (lv' := [(3, .int 0), (0, .ref (ad 0 0)), (1, .long (lp_X5_digest_33 S 4 0 (lp_X5_digest_6 S 11 0 58120)))]) hx hb dX5_digest_75 rfl hl (by decide) rfl (fun ls hl => ?_)
          have key_76 : ∀ (k i : Nat) (v1 : Int64) (H : Heap) (locs : List Loc) (ls : Array Slot), i + k = (S 3 0 0).toNatClampNeg → (lp_X5_digest_76 S ((S 3 0 0).toNatClampNeg) 0 (lp_X5_digest_33 S 4 0 (lp_X5_digest_6 S 11 0 58120))) = lp_X5_digest_76 S k i v1 → wk D A L ad (cK cI cJ ad ce S) s.heap H locs → lv_has ls 5 [(0, .ref (ad 0 0)), (1, .long v1), (3, .int (nI i))] → W p l e (headSpec bw_X5_digest rm_X5_digest).room s m args below meth c H locs 0 0 (MQ below (kQl D A (sp_X5_digest S).1 L ad (cK cI cJ ad ce (sp_X5_digest S).2)) args s 0 0 A) (F0 m 76 ls []) := by
            intro k
            induction k with
            | zero =>
              intro i v1 H locs ls hk hV hw hl
              have hV := hV.trans (lz_lp_X5_digest_76 S i v1)
              obtain rfl : v1 = (lp_X5_digest_76 S ((S 3 0 0).toNatClampNeg) 0 (lp_X5_digest_33 S 4 0 (lp_X5_digest_6 S 11 0 58120))) := hV.symm
              refine lv_iload_n hx hb dX5_digest_76 rfl (lv_at hl 2 rfl) ?_
              refine lv_aload_n hx hb dX5_digest_77 rfl (lv_at hl 0 rfl) ?_
              refine k_get (C := RX5) (T := TX5) (N := 7) (v := .ref (ad 3 0)) hx hb hts inB_X5 hown hK hw (hL 0 0 rfl) cke_0 rfl 2 (by decide) (hts _ w_f_X5_26) (fun _ h9 => h9) rfl dX5_digest_78 ?_
              refine k_get (C := RX4) (T := TX4) (N := 5) (v := .int (S 3 0 0)) hx hb hts inB_X4 hown hK hw (hL 3 0 rfl) cke_3 rfl 4 (by decide) (hts _ w_f_X5_139) (fun _ h9 => h9) rfl dX5_digest_81 ?_
              refine lv_icmp_ge (tgt := 123) hx hb dX5_digest_84 (by decide) (fun _ => ?_) (fun h => absurd (lp_o (SF.b4 (SF.rf _) hI) hk (cn_lt _)) h)
              refine lv_iconst (v := 0) hx hb dX5_digest_123 (by decide) ?_
              refine lv_istore_n (lv' := [(3, .int 0), (0, .ref (ad 0 0)), (1, .long (lp_X5_digest_76 S ((S 3 0 0).toNatClampNeg) 0 (lp_X5_digest_33 S 4 0 (lp_X5_digest_6 S 11 0 58120))))]) hx hb dX5_digest_124 rfl hl (by decide) rfl (fun ls hl => ?_)
              have key_125 : ∀ (k i : Nat) (v1 : Int64) (Sx : (Nat → Nat → Nat → Int32)) (H : Heap) (locs : List Loc) (ls : Array Slot), i + k = (S 0 0 0).toNatClampNeg → SF S Sx → (lp_X5_digest_125 ((S 0 0 0).toNatClampNeg) 0 (lp_X5_digest_76 S ((S 3 0 0).toNatClampNeg) 0 (lp_X5_digest_33 S 4 0 (lp_X5_digest_6 S 11 0 58120))) S) = lp_X5_digest_125 k i v1 Sx → wk D A L ad (cK cI cJ ad ce Sx) s.heap H locs → lv_has ls 5 [(0, .ref (ad 0 0)), (1, .long v1), (3, .int (nI i))] → W p l e (headSpec bw_X5_digest rm_X5_digest).room s m args below meth c H locs 0 0 (MQ below (kQl D A (sp_X5_digest S).1 L ad (cK cI cJ ad ce (sp_X5_digest S).2)) args s 0 0 A) (F0 m 125 ls []) := by
                intro k
                induction k with
                | zero =>
                  intro i v1 Sx H locs ls hk hsf hV hw hl
                  have hV := hV.trans (lz_lp_X5_digest_125 i v1 Sx)
                  obtain rfl : v1 = (lp_X5_digest_125 ((S 0 0 0).toNatClampNeg) 0 (lp_X5_digest_76 S ((S 3 0 0).toNatClampNeg) 0 (lp_X5_digest_33 S 4 0 (lp_X5_digest_6 S 11 0 58120))) S).1 := (congrArg (fun z => z.1) hV).symm
                  obtain rfl : Sx = (lp_X5_digest_125 ((S 0 0 0).toNatClampNeg) 0 (lp_X5_digest_76 S ((S 3 0 0).toNatClampNeg) 0 (lp_X5_digest_33 S 4 0 (lp_X5_digest_6 S 11 0 58120))) S).2 := (congrArg (fun z => z.2) hV).symm
                  refine lv_iload_n hx hb dX5_digest_125 rfl (lv_at hl 2 rfl) ?_
                  refine lv_aload_n hx hb dX5_digest_126 rfl (lv_at hl 0 rfl) ?_
                  refine k_get (C := RX5) (T := TX5) (N := 7) (v := .int (((lp_X5_digest_125 ((S 0 0 0).toNatClampNeg) 0 (lp_X5_digest_76 S ((S 3 0 0).toNatClampNeg) 0 (lp_X5_digest_33 S 4 0 (lp_X5_digest_6 S 11 0 58120))) S).2) 0 0 0)) hx hb hts inB_X5 hown hK hw (hL 0 0 rfl) cke_0 rfl 5 (by decide) (hts _ w_f_X5_174) (fun _ h9 => h9) rfl dX5_digest_127 ?_
                  refine lv_icmp_ge (tgt := 150) hx hb dX5_digest_130 (by decide) (fun _ => ?_) (fun h => absurd (lp_o (SF.b5 hsf hI) hk (cn_lt _)) h)
                  refine lv_lload_n hx hb dX5_digest_150 rfl (lv_at hl 1 rfl) ?_
                  exact k_lretE hx hb hr hlocks hw hE dX5_digest_151
                | succ k ih =>
                  intro i v1 Sx H locs ls hk hsf hV hw hl
                  have hV := hV.trans (ls_lp_X5_digest_125 k i v1 Sx)
                  refine lv_iload_n hx hb dX5_digest_125 rfl (lv_at hl 2 rfl) ?_
                  refine lv_aload_n hx hb dX5_digest_126 rfl (lv_at hl 0 rfl) ?_
                  refine k_get (C := RX5) (T := TX5) (N := 7) (v := .int (Sx 0 0 0)) hx hb hts inB_X5 hown hK hw (hL 0 0 rfl) cke_0 rfl 5 (by decide) (hts _ w_f_X5_174) (fun _ h9 => h9) rfl dX5_digest_127 ?_
                  refine lv_icmp_ge (tgt := 150) hx hb dX5_digest_130 (by decide) (fun h => absurd h (lp_i (SF.b5 hsf hI) hk (cn_lt _))) (fun _ => ?_)
                  refine lv_aload_n hx hb dX5_digest_133 rfl (lv_at hl 0 rfl) ?_
                  refine lv_lload_n hx hb dX5_digest_134 rfl (lv_at hl 1 rfl) ?_
                  refine lv_aload_n hx hb dX5_digest_135 rfl (lv_at hl 0 rfl) ?_
                  refine lv_iload_n hx hb dX5_digest_136 rfl (lv_at hl 2 rfl) ?_
                  refine k_cr0 hw (k_rV (As := [.int (nI i)]) (rest := [.long v1, .ref (ad 0 0)]) ⟨hx, hb, hml, hown, hts⟩ hK hO hw (ct_X5_joinerAt_n hL Sx (SF.ci hsf hI) i (SF.q5 hsf (lp_l hk)) _ (wk.hA hw hA)) (cwV 1 hts (gB_V w_ml_X5_179 w_im_X5_joinerAt w_se_X5_joinerAt w_in_X5 w_co_X5_joinerAt) rfl rfl rfl (by decide +kernel) ⟨by decide, by decide⟩) (hL 0 0 rfl) cke_0 rfl rfl hl.1 rfl (Nat.le_of_ble_eq_true rfl) dX5_digest_137 ⟨Nat.le_of_ble_eq_true rfl, Nat.le_of_ble_eq_true rfl⟩) (fun H locs hw => ?_)
                  refine k_cl0 hw (k_rV (As := [.long v1, .ref (ad 6 i)]) (rest := []) ⟨hx, hb, hml, hown, hts⟩ hK hO hw (ct_X5_digestWith hL Sx (SF.ci hsf hI) i (Nat.lt_of_lt_of_le (lp_l hk) (CI.n5 hI)) v1 _ (wk.hA hw hA)) (cwV 2 hts (gB_V w_ml_X5_299 w_im_X5_digestWith w_se_X5_digestWith w_in_X5 w_co_X5_digestWith) rfl rfl rfl (by decide +kernel) ⟨by decide, by decide⟩) (hL 0 0 rfl) cke_0 rfl rfl hl.1 rfl (Nat.le_of_ble_eq_true rfl) dX5_digest_140 ⟨Nat.le_of_ble_eq_true rfl, Nat.le_of_ble_eq_true rfl⟩) (fun H locs hw => ?_)
                  refine lv_lstore_n (lv' := [(1, .long ((sp_X5_digestWith Sx i v1).1)), (0, .ref (ad 0 0)), (3, .int (nI i))]) hx hb dX5_digest_143 rfl hl (by decide) rfl (fun ls hl => ?_)
                  refine lv_iinc (v := (nI (i + 1))) (lv' := [(3, .int (nI (i + 1))), (1, .long ((sp_X5_digestWith Sx i v1).1)), (0, .ref (ad 0 0))]) hx hb dX5_digest_144 hl (k := 2) rfl (nI_1 _) (by decide) rfl (fun ls hl => ?_)
                  refine lv_goto (tgt := 125) hx hb dX5_digest_147 (by decide) ?_
                  exact ih (i + 1) ((sp_X5_digestWith Sx i v1).1) ((sp_X5_digestWith Sx i v1).2) _ _ _ (lp_s hk) (SF.tr hsf (sf_X5_digestWith Sx i v1)) hV hw (lv_sub hl [2, 1, 0] rfl)
              exact key_125 ((S 0 0 0).toNatClampNeg) 0 (lp_X5_digest_76 S ((S 3 0 0).toNatClampNeg) 0 (lp_X5_digest_33 S 4 0 (lp_X5_digest_6 S 11 0 58120))) S _ _ _ (Nat.zero_add _) (SF.rf _) rfl hw (lv_sub hl [1, 2, 0] rfl)
            | succ k ih =>
              intro i v1 H locs ls hk hV hw hl
              have hV := hV.trans (ls_lp_X5_digest_76 S k i v1)
              refine lv_iload_n hx hb dX5_digest_76 rfl (lv_at hl 2 rfl) ?_
              refine lv_aload_n hx hb dX5_digest_77 rfl (lv_at hl 0 rfl) ?_
              refine k_get (C := RX5) (T := TX5) (N := 7) (v := .ref (ad 3 0)) hx hb hts inB_X5 hown hK hw (hL 0 0 rfl) cke_0 rfl 2 (by decide) (hts _ w_f_X5_26) (fun _ h9 => h9) rfl dX5_digest_78 ?_
              refine k_get (C := RX4) (T := TX4) (N := 5) (v := .int (S 3 0 0)) hx hb hts inB_X4 hown hK hw (hL 3 0 rfl) cke_3 rfl 4 (by decide) (hts _ w_f_X5_139) (fun _ h9 => h9) rfl dX5_digest_81 ?_
              refine lv_icmp_ge (tgt := 123) hx hb dX5_digest_84 (by decide) (fun h => absurd h (lp_i (SF.b4 (SF.rf _) hI) hk (cn_lt _))) (fun _ => ?_)
              refine lv_iconst (v := 0) hx hb dX5_digest_87 (by decide) ?_
              refine lv_istore (lv' := [(4, .int 0), (0, .ref (ad 0 0)), (1, .long v1), (3, .int (nI i))]) hx hb dX5_digest_88 hl (by decide) rfl (fun ls hl => ?_)
              have key_90 : ∀ (kb ib : Nat) (v1b : Int64) (H : Heap) (locs : List Loc) (ls : Array Slot), ib + kb = 4 → (lp_X5_digest_90 S k i v1 4 0 v1) = lp_X5_digest_90 S k i v1 kb ib v1b → wk D A L ad (cK cI cJ ad ce S) s.heap H locs → lv_has ls 5 [(0, .ref (ad 0 0)), (1, .long v1b), (3, .int (nI i)), (4, .int (nI ib))] → W p l e (headSpec bw_X5_digest rm_X5_digest).room s m args below meth c H locs 0 0 (MQ below (kQl D A (sp_X5_digest S).1 L ad (cK cI cJ ad ce (sp_X5_digest S).2)) args s 0 0 A) (F0 m 90 ls []) := by
                intro kb
                induction kb with
                | zero =>
                  intro ib v1b H locs ls hkb hVb hw hl
                  have hVb := hVb.trans (lz_lp_X5_digest_90 S k i v1 ib v1b)
                  obtain rfl : v1b = (lp_X5_digest_90 S k i v1 4 0 v1) := hVb.symm
                  refine lv_iload hx hb dX5_digest_90 (lv_at hl 3 rfl) ?_
                  refine lv_iconst (v := 3) hx hb dX5_digest_92 (by decide) ?_
                  refine lv_icmp_gt (tgt := 117) hx hb dX5_digest_93 (by decide) (fun _ => ?_) (fun h => absurd (lp_o' rfl hkb (by decide)) h)
                  refine lv_iinc (v := (nI (i + 1))) (lv' := [(3, .int (nI (i + 1))), (0, .ref (ad 0 0)), (1, .long (lp_X5_digest_90 S k i v1 4 0 v1)), (4, .int (nI ib))]) hx hb dX5_digest_117 hl (k := 2) rfl (nI_1 _) (by decide) rfl (fun ls hl => ?_)
                  refine lv_goto (tgt := 76) hx hb dX5_digest_120 (by decide) ?_
                  exact ih (i + 1) (lp_X5_digest_90 S k i v1 4 0 v1) _ _ _ (lp_s hk) hV hw (lv_sub hl [1, 2, 0] rfl)
                | succ kb ihb =>
                  intro ib v1b H locs ls hkb hVb hw hl
                  have hVb := hVb.trans (ls_lp_X5_digest_90 S k i v1 kb ib v1b)
                  refine lv_iload hx hb dX5_digest_90 (lv_at hl 3 rfl) ?_
                  refine lv_iconst (v := 3) hx hb dX5_digest_92 (by decide) ?_
                  refine lv_icmp_gt (tgt := 117) hx hb dX5_digest_93 (by decide) (fun h => absurd h (lp_i' rfl hkb (by decide))) (fun _ => ?_)
                  refine lv_lload_n hx hb dX5_digest_96 rfl (lv_at hl 1 rfl) ?_
                  refine lv_ldc2 hx hb hown (hts _ w_cq_X5_288) dX5_digest_97 ?_
                  refine lv_lmul hx hb dX5_digest_100 ?_
                  refine lv_aload_n hx hb dX5_digest_101 rfl (lv_at hl 0 rfl) ?_
                  refine lv_iload_n hx hb dX5_digest_102 rfl (lv_at hl 2 rfl) ?_
                  refine lv_iload hx hb dX5_digest_103 (lv_at hl 3 rfl) ?_
                  refine k_ci0 hw (k_rV (As := [.int (nI i), .int (nI ib)]) (rest := [.long (v1b * 31)]) ⟨hx, hb, hml, hown, hts⟩ hK hO hw (ct_X5_ofSession_n hL S (SF.ci (SF.rf _) hI) (nI i) (nI ib) (nI_pos (Nat.lt_trans (lp_l hk) (cn_lt _))) (by rw [SF.b4 (SF.rf _) hI]; exact nI_lt (lp_l hk) (cn_lt _)) (wi_ok rfl (lp_le hkb) (by decide)) _ (wk.hA hw hA)) (cwV 2 hts (gB_V w_ml_X5_296 w_im_X5_ofSession w_se_X5_ofSession w_in_X5 w_co_X5_ofSession) rfl rfl rfl (by decide +kernel) ⟨by decide, by decide⟩) (hL 0 0 rfl) cke_0 rfl rfl hl.1 rfl (Nat.le_of_ble_eq_true rfl) dX5_digest_105 ⟨Nat.le_of_ble_eq_true rfl, Nat.le_of_ble_eq_true rfl⟩) (fun H locs hw => ?_)
                  refine lv_i2l (v := (sp_X5_ofSession_n S (nI i) (nI ib)).toInt64) hx hb dX5_digest_108 rfl ?_
                  refine lv_ladd hx hb dX5_digest_109 ?_
                  refine lv_lstore_n (lv' := [(1, .long ((v1b * 31) + ((sp_X5_ofSession_n S (nI i) (nI ib)).toInt64))), (0, .ref (ad 0 0)), (3, .int (nI i)), (4, .int (nI ib))]) hx hb dX5_digest_110 rfl hl (by decide) rfl (fun ls hl => ?_)
                  refine lv_iinc (v := (nI (ib + 1))) (lv' := [(4, .int (nI (ib + 1))), (1, .long ((v1b * 31) + ((sp_X5_ofSession_n S (nI i) (nI ib)).toInt64))), (0, .ref (ad 0 0)), (3, .int (nI i))]) hx hb dX5_digest_111 hl (k := 3) rfl (nI_1 _) (by decide) rfl (fun ls hl => ?_)
                  refine lv_goto (tgt := 90) hx hb dX5_digest_114 (by decide) ?_
                  exact ihb (ib + 1) ((v1b * 31) + ((sp_X5_ofSession_n S (nI i) (nI ib)).toInt64)) _ _ _ (lp_s hkb) hVb hw (lv_sub hl [2, 1, 3, 0] rfl)
              exact key_90 4 0 v1 _ _ _ (Nat.zero_add _) rfl hw (lv_sub hl [1, 2, 3, 0] rfl)
          exact key_76 ((S 3 0 0).toNatClampNeg) 0 (lp_X5_digest_33 S 4 0 (lp_X5_digest_6 S 11 0 58120)) _ _ _ (Nat.zero_add _) rfl hw (lv_sub hl [1, 2, 0] rfl)
        | succ k ih =>
          intro i v1 H locs ls hk hV hw hl
          have hV := hV.trans (ls_lp_X5_digest_33 S k i v1)
          refine lv_iload_n hx hb dX5_digest_33 rfl (lv_at hl 2 rfl) ?_
          refine lv_iconst (v := 4) hx hb dX5_digest_34 (by decide) ?_
          refine lv_icmp_ge (tgt := 74) hx hb dX5_digest_35 (by decide) (fun h => absurd h (lp_i rfl hk (by decide))) (fun _ => ?_)
          refine lv_iconst (v := 0) hx hb dX5_digest_38 (by decide) ?_
          refine lv_istore (lv' := [(4, .int 0), (0, .ref (ad 0 0)), (1, .long v1), (3, .int (nI i))]) hx hb dX5_digest_39 hl (by decide) rfl (fun ls hl => ?_)
          have key_41 : ∀ (kb ib : Nat) (v1b : Int64) (H : Heap) (locs : List Loc) (ls : Array Slot), ib + kb = 4 → (lp_X5_digest_41 S k i v1 4 0 v1) = lp_X5_digest_41 S k i v1 kb ib v1b → wk D A L ad (cK cI cJ ad ce S) s.heap H locs → lv_has ls 5 [(0, .ref (ad 0 0)), (1, .long v1b), (3, .int (nI i)), (4, .int (nI ib))] → W p l e (headSpec bw_X5_digest rm_X5_digest).room s m args below meth c H locs 0 0 (MQ below (kQl D A (sp_X5_digest S).1 L ad (cK cI cJ ad ce (sp_X5_digest S).2)) args s 0 0 A) (F0 m 41 ls []) := by
            intro kb
            induction kb with
            | zero =>
              intro ib v1b H locs ls hkb hVb hw hl
              have hVb := hVb.trans (lz_lp_X5_digest_41 S k i v1 ib v1b)
              obtain rfl : v1b = (lp_X5_digest_41 S k i v1 4 0 v1) := hVb.symm
              refine lv_iload hx hb dX5_digest_41 (lv_at hl 3 rfl) ?_
              refine lv_iconst (v := 3) hx hb dX5_digest_43 (by decide) ?_
              refine lv_icmp_gt (tgt := 68) hx hb dX5_digest_44 (by decide) (fun _ => ?_) (fun h => absurd (lp_o' rfl hkb (by decide)) h)
              refine lv_iinc (v := (nI (i + 1))) (lv' := [(3, .int (nI (i + 1))), (0, .ref (ad 0 0)), (1, .long (lp_X5_digest_41 S k i v1 4 0 v1)), (4, .int (nI ib))]) hx hb dX5_digest_68 hl (k := 2) rfl (nI_1 _) (by decide) rfl (fun ls hl => ?_)
              refine lv_goto (tgt := 33) hx hb dX5_digest_71 (by decide) ?_
              exact ih (i + 1) (lp_X5_digest_41 S k i v1 4 0 v1) _ _ _ (lp_s hk) hV hw (lv_sub hl [1, 2, 0] rfl)
            | succ kb ihb =>
              intro ib v1b H locs ls hkb hVb hw hl
              have hVb := hVb.trans (ls_lp_X5_digest_41 S k i v1 kb ib v1b)
              refine lv_iload hx hb dX5_digest_41 (lv_at hl 3 rfl) ?_
              refine lv_iconst (v := 3) hx hb dX5_digest_43 (by decide) ?_
              refine lv_icmp_gt (tgt := 68) hx hb dX5_digest_44 (by decide) (fun h => absurd h (lp_i' rfl hkb (by decide))) (fun _ => ?_)
              refine lv_lload_n hx hb dX5_digest_47 rfl (lv_at hl 1 rfl) ?_
              refine lv_ldc2 hx hb hown (hts _ w_cq_X5_288) dX5_digest_48 ?_
              refine lv_lmul hx hb dX5_digest_51 ?_
              refine lv_aload_n hx hb dX5_digest_52 rfl (lv_at hl 0 rfl) ?_
              refine lv_iload_n hx hb dX5_digest_53 rfl (lv_at hl 2 rfl) ?_
              refine lv_iload hx hb dX5_digest_54 (lv_at hl 3 rfl) ?_
              refine k_ci0 hw (k_rV (As := [.int (nI i), .int (nI ib)]) (rest := [.long (v1b * 31)]) ⟨hx, hb, hml, hown, hts⟩ hK hO hw (ct_X5_ofItem_n hL S (SF.ci (SF.rf _) hI) (nI i) (nI ib) (nI_pos (Nat.lt_trans (lp_l hk) (by decide))) (nI_lt (b := 4) (lp_l hk) (by decide)) (wi_ok rfl (lp_le hkb) (by decide)) _ (wk.hA hw hA)) (cwV 2 hts (gB_V w_ml_X5_293 w_im_X5_ofItem w_se_X5_ofItem w_in_X5 w_co_X5_ofItem) rfl rfl rfl (by decide +kernel) ⟨by decide, by decide⟩) (hL 0 0 rfl) cke_0 rfl rfl hl.1 rfl (Nat.le_of_ble_eq_true rfl) dX5_digest_56 ⟨Nat.le_of_ble_eq_true rfl, Nat.le_of_ble_eq_true rfl⟩) (fun H locs hw => ?_)
              refine lv_i2l (v := (sp_X5_ofItem_n S (nI i) (nI ib)).toInt64) hx hb dX5_digest_59 rfl ?_
              refine lv_ladd hx hb dX5_digest_60 ?_
              refine lv_lstore_n (lv' := [(1, .long ((v1b * 31) + ((sp_X5_ofItem_n S (nI i) (nI ib)).toInt64))), (0, .ref (ad 0 0)), (3, .int (nI i)), (4, .int (nI ib))]) hx hb dX5_digest_61 rfl hl (by decide) rfl (fun ls hl => ?_)
              refine lv_iinc (v := (nI (ib + 1))) (lv' := [(4, .int (nI (ib + 1))), (1, .long ((v1b * 31) + ((sp_X5_ofItem_n S (nI i) (nI ib)).toInt64))), (0, .ref (ad 0 0)), (3, .int (nI i))]) hx hb dX5_digest_62 hl (k := 3) rfl (nI_1 _) (by decide) rfl (fun ls hl => ?_)
              refine lv_goto (tgt := 41) hx hb dX5_digest_65 (by decide) ?_
              exact ihb (ib + 1) ((v1b * 31) + ((sp_X5_ofItem_n S (nI i) (nI ib)).toInt64)) _ _ _ (lp_s hkb) hVb hw (lv_sub hl [2, 1, 3, 0] rfl)
          exact key_41 4 0 v1 _ _ _ (Nat.zero_add _) rfl hw (lv_sub hl [1, 2, 3, 0] rfl)
      exact key_33 4 0 (lp_X5_digest_6 S 11 0 58120) _ _ _ (Nat.zero_add _) rfl hw (lv_sub hl [1, 2, 0] rfl)
    | succ k ih =>
      intro i v1 H locs ls hk hV hw hl
      have hV := hV.trans (ls_lp_X5_digest_6 S k i v1)
      refine lv_iload_n hx hb dX5_digest_6 rfl (lv_at hl 2 rfl) ?_
      refine lv_bipush (v := 10) hx hb dX5_digest_7 (by decide) ?_
      refine lv_icmp_gt (tgt := 31) hx hb dX5_digest_9 (by decide) (fun h => absurd h (lp_i' rfl hk (by decide))) (fun _ => ?_)
      refine lv_lload_n hx hb dX5_digest_12 rfl (lv_at hl 1 rfl) ?_
      refine lv_ldc2 hx hb hown (hts _ w_cq_X5_288) dX5_digest_13 ?_
      refine lv_lmul hx hb dX5_digest_16 ?_
      refine lv_aload_n hx hb dX5_digest_17 rfl (lv_at hl 0 rfl) ?_
      refine lv_iload_n hx hb dX5_digest_18 rfl (lv_at hl 2 rfl) ?_
      refine k_ci0 hw (k_rV (As := [.int (nI i)]) (rest := [.long (v1 * 31)]) ⟨hx, hb, hml, hown, hts⟩ hK hO hw (ct_X5_many_n hL S (SF.ci (SF.rf _) hI) (nI i) (wi_ok rfl (lp_le hk) (by decide)) _ (wk.hA hw hA)) (cwV 1 hts (gB_V w_ml_X5_290 w_im_X5_many w_se_X5_many w_in_X5 w_co_X5_many) rfl rfl rfl (by decide +kernel) ⟨by decide, by decide⟩) (hL 0 0 rfl) cke_0 rfl rfl hl.1 rfl (Nat.le_of_ble_eq_true rfl) dX5_digest_19 ⟨Nat.le_of_ble_eq_true rfl, Nat.le_of_ble_eq_true rfl⟩) (fun H locs hw => ?_)
      refine lv_i2l (v := (sp_X5_many_n S (nI i)).toInt64) hx hb dX5_digest_22 rfl ?_
      refine lv_ladd hx hb dX5_digest_23 ?_
      refine lv_lstore_n (lv' := [(1, .long ((v1 * 31) + ((sp_X5_many_n S (nI i)).toInt64))), (0, .ref (ad 0 0)), (3, .int (nI i))]) hx hb dX5_digest_24 rfl hl (by decide) rfl (fun ls hl => ?_)
      refine lv_iinc (v := (nI (i + 1))) (lv' := [(3, .int (nI (i + 1))), (1, .long ((v1 * 31) + ((sp_X5_many_n S (nI i)).toInt64))), (0, .ref (ad 0 0))]) hx hb dX5_digest_25 hl (k := 2) rfl (nI_1 _) (by decide) rfl (fun ls hl => ?_)
      refine lv_goto (tgt := 6) hx hb dX5_digest_28 (by decide) ?_
      exact ih (i + 1) ((v1 * 31) + ((sp_X5_many_n S (nI i)).toInt64)) _ _ _ (lp_s hk) hV hw (lv_sub hl [2, 1, 0] rfl)
  exact key_6 11 0 58120 _ _ _ (Nat.zero_add _) rfl hw (lv_sub hl [2, 1, 0] rfl)
