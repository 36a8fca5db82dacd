section P24R

set_option maxHeartbeats 4000000 in
set_option maxRecDepth 100000 in
theorem law_r {p : Program} {l : Launch} {e : Env} {R : Room} {s : State} {m : MethodId} {args : Array Value} {below : List Frame} {meth : Method} {c : Code} {Q : State → Prop} {D : va_G} {cI cG cJ cO : ClassId} {K0 : Nat → Nat} {A : Nat → Prop} {L : List (Nat × Nat)} {ad : Nat → Nat → Nat} (F : CallFix p m c cL_law 17 s args BIG RL) (hK : va_K D vwCl (ktys cI cG cJ cO) s) (hO : OW A K0 s) (hL : ∀ f o, cid f o = true → (f, o) ∈ L) (hA : ∀ q, s.heap.size ≤ q → A q) (hst : l.stackTraces = false) (hfr : 8 ≤ R.frames) (hlo : 180 ≤ R.locals) (hRc : 2000 ≤ R.cells) (hRs : 20000 ≤ R.slots) (h1 : K0 1 < 2 ^ 31) (m92 : (92, 0) ∈ L) {ns nr : Nat} (hnr : nr ≤ 6) {st : Nat → Int32} {ce : Nat → Nat → va_E} (h92 : ce 92 0 = .inl (cI, nr, .inl st)) {r : Nat} (hr : r < 512) {Z M : STT} (hZ : RLn r Z M) (hN : NI Z) (g6 : Z 1 0 1 = nI nr) (g8 : ∀ k, k < nr → Z 12 0 k = st k) {d : Int64} {a : Nat} (ha : a < 8) (hj : a < (Z 0 0 0).toNatClampNeg) (kk : ∀ (S : STT) (H : Heap) (locs : List Loc) (ls : Array Slot), RLn r S M → wk D A L ad (cK cI cJ ad ce S) s.heap H locs → lv_has ls 17 [(9, .int (nI a)), (7, .long d), (6, .ref (ad 92 0)), (5, .int (nI nr)), (4, .ref (ad 91 0)), (3, .ref (ad 90 0)), (2, .int (nI ns)), (1, .ref (ad 0 0)), (0, .ref (K0 0))] → W p l e R s m args below meth c H locs 500 4000 Q (F0 m 984 ls [])) : ∀ (n b : Nat) (S : STT) (H : Heap) (locs : List Loc) (ls : Array Slot), b + n = nr → RLn r S M → wk D A L ad (cK cI cJ ad ce S) s.heap H locs → lv_has ls 17 [(10, .int (nI b)), (9, .int (nI a)), (7, .long d), (6, .ref (ad 92 0)), (5, .int (nI nr)), (4, .ref (ad 91 0)), (3, .ref (ad 90 0)), (2, .int (nI ns)), (1, .ref (ad 0 0)), (0, .ref (K0 0))] → W p l e R s m args below meth c H locs 500 4000 Q (F0 m 891 ls []) := by
  obtain ⟨hx, hb, hml, hown, hts⟩ := F
  have hc : 500 ≤ R.cells ∧ 4000 ≤ R.slots := ⟨by omega, by omega⟩
  have eR : (Z 1 0 1).toNatClampNeg = nr := by rw [g6, q_cl (by omega)]
  intro n
  induction n with
  | zero =>
    intro b S H locs ls hb1 hS hw hl
    refine lv_iload hx hb dL_law_891 (lv_at hl 0 rfl) ?_
    refine lv_iload hx hb dL_law_893 (lv_at hl 4 rfl) ?_
    refine lv_icmp_ge (tgt := 984) hx hb dL_law_895 (by decide) (fun _ => ?_) (fun h => absurd (nI_le (by omega) (by omega)) h)
    exact kk S H locs ls hS hw (lv_sub hl [1, 2, 3, 4, 5, 6, 7, 8, 9] rfl)
  | succ n ih =>
    intro b S H locs ls hb1 hS hw hl
    have hlt : ¬ nI nr ≤ nI b := nI_ge (by omega) (by omega)
    have hq : b < (Z 1 0 1).toNatClampNeg := by omega
    obtain ⟨on, eon⟩ : ∃ on : Int32, sp_X0_dayBehind (sp_X0_foresee Z a (Z 0 0 1) (-1) 0) (Z 12 0 b) = on := ⟨_, rfl⟩
    refine lv_iload hx hb dL_law_891 (lv_at hl 0 rfl) ?_
    refine lv_iload hx hb dL_law_893 (lv_at hl 4 rfl) ?_
    refine lv_icmp_ge (tgt := 984) hx hb dL_law_895 (by decide) (fun h => absurd h hlt) (fun _ => ?_)
    refine lv_aload_n hx hb dL_law_898 rfl (lv_at hl 8 rfl) ?_
    refine lv_iload hx hb dL_law_899 (lv_at hl 1 rfl) ?_
    refine lv_iload hx hb dL_law_901 (lv_at hl 0 rfl) ?_
    refine r_right ⟨hx, hb, hml, hown, hts⟩ hK hO hL hA hw hZ hS (j := a) (q := b) hj hq (v := on) eon (cwV 2 hts (gB_V w_ml_L_78 w_im_X5_rightOn w_se_X5_rightOn w_in_X5 w_co_X5_rightOn) rfl rfl rfl (by decide +kernel) ⟨Nat.le_trans (Nat.le_of_ble_eq_true rfl) hfr, Nat.le_trans (Nat.le_of_ble_eq_true rfl) hlo⟩) hl.1 (Nat.le_of_ble_eq_true rfl) hc dL_law_903 (fun S H locs hS hw => ?_)
    refine lv_istore (lv' := [(11, .int on), (10, .int (nI b)), (9, .int (nI a)), (7, .long d), (6, .ref (ad 92 0)), (5, .int (nI nr)), (4, .ref (ad 91 0)), (3, .ref (ad 90 0)), (2, .int (nI ns)), (1, .ref (ad 0 0)), (0, .ref (K0 0))]) hx hb dL_law_906 hl (by decide) rfl (fun ls hl => ?_)
    by_cases hn : on < 0
    · refine lv_iload hx hb dL_law_908 (lv_at hl 0 rfl) ?_
      refine lv_if_lt (tgt := 931) hx hb dL_law_910 (by decide) (fun _ => ?_) (fun h => absurd hn h)
      refine lv_iload hx hb dL_law_931 (lv_at hl 0 rfl) ?_
      refine lv_if_lt (tgt := 978) hx hb dL_law_933 (by decide) (fun _ => ?_) (fun h => absurd hn h)
      refine lv_iinc (v := (nI (b + 1))) (lv' := [(10, .int (nI (b + 1))), (11, .int on), (9, .int (nI a)), (7, .long d), (6, .ref (ad 92 0)), (5, .int (nI nr)), (4, .ref (ad 91 0)), (3, .ref (ad 90 0)), (2, .int (nI ns)), (1, .ref (ad 0 0)), (0, .ref (K0 0))]) hx hb dL_law_978 hl (k := 1) rfl (nI_1 _) (by decide) rfl (fun ls hl => ?_)
      refine lv_goto (tgt := 891) hx hb dL_law_981 (by decide) ?_
      exact ih (b + 1) S H locs ls (by omega) hS hw (lv_sub hl [0, 2, 3, 4, 5, 6, 7, 8, 9, 10] rfl)
    · obtain ⟨hs, hh⟩ := right_law (by omega) hZ hN hj hq eon hn
      by_cases hlate : Z 0 0 1 < on
      · refine lv_iload hx hb dL_law_908 (lv_at hl 0 rfl) ?_
        refine lv_if_lt (tgt := 931) hx hb dL_law_910 (by decide) (fun h => absurd h hn) (fun _ => ?_)
        refine lv_aload hx hb dL_law_913 (lv_at hl 4 rfl) ?_
        refine lv_iload hx hb dL_law_915 (lv_at hl 1 rfl) ?_
        refine r_ald ⟨hx, hb, hml, hown, hts⟩ hK hw (i := b) (v := Z 12 0 b) m92 (by decide) h92 (by omega) (by omega) (g8 b (by omega)).symm dL_law_917 ?_
        refine lv_aload_n hx hb dL_law_918 rfl (lv_at hl 9 rfl) ?_
        refine lv_iload hx hb dL_law_919 (lv_at hl 2 rfl) ?_
        refine lv_iconst (v := 0) hx hb dL_law_921 (by decide) ?_
        refine r_joiner ⟨hx, hb, hml, hown, hts⟩ hK hO hL hA hw hZ hS (j := a) (w := 0) hj (by decide) (v := Z 6 a 0) w_j0 (cwV 2 hts (gB_V w_ml_L_52 w_im_X5_ofJoiner w_se_X5_ofJoiner w_in_X5 w_co_X5_ofJoiner) rfl rfl rfl (by decide +kernel) ⟨Nat.le_trans (Nat.le_of_ble_eq_true rfl) hfr, Nat.le_trans (Nat.le_of_ble_eq_true rfl) hlo⟩) hl.1 (Nat.le_of_ble_eq_true rfl) hc dL_law_922 (fun S H locs hS hw => ?_)
        refine lv_iconst (v := (-1)) hx hb dL_law_925 (by decide) ?_
        refine lv_ixor hx hb dL_law_926 ?_
        refine lv_iand hx hb dL_law_927 ?_
        refine lv_if_ne (tgt := 976) hx hb dL_law_928 (by decide) (fun h => absurd hs h) (fun _ => ?_)
        refine lv_iload hx hb dL_law_931 (lv_at hl 0 rfl) ?_
        refine lv_if_lt (tgt := 978) hx hb dL_law_933 (by decide) (fun h => absurd h hn) (fun _ => ?_)
        refine lv_aload_n hx hb dL_law_936 rfl (lv_at hl 9 rfl) ?_
        refine lv_iload hx hb dL_law_937 (lv_at hl 2 rfl) ?_
        refine lv_iconst (v := 4) hx hb dL_law_939 (by decide) ?_
        refine r_joiner ⟨hx, hb, hml, hown, hts⟩ hK hO hL hA hw hZ hS (j := a) (w := 4) hj (by decide) (v := (sp_X2_rightsOf Z a)) w_j4 (cwV 2 hts (gB_V w_ml_L_52 w_im_X5_ofJoiner w_se_X5_ofJoiner w_in_X5 w_co_X5_ofJoiner) rfl rfl rfl (by decide +kernel) ⟨Nat.le_trans (Nat.le_of_ble_eq_true rfl) hfr, Nat.le_trans (Nat.le_of_ble_eq_true rfl) hlo⟩) hl.1 (Nat.le_of_ble_eq_true rfl) hc dL_law_940 (fun S H locs hS hw => ?_)
        refine lv_iload hx hb dL_law_943 (lv_at hl 1 rfl) ?_
        refine lv_ishr hx hb dL_law_945 ?_
        refine lv_iconst (v := 1) hx hb dL_law_946 (by decide) ?_
        refine lv_iand hx hb dL_law_947 ?_
        refine lv_iconst (v := 1) hx hb dL_law_948 (by decide) ?_
        refine lv_icmp_ne (tgt := 956) hx hb dL_law_949 (by decide) (fun _ => ?_) (fun h => absurd h (fun z => hh.mp z hlate))
        refine lv_iconst (v := 0) hx hb dL_law_956 (by decide) ?_
        refine lv_iload hx hb dL_law_957 (lv_at hl 0 rfl) ?_
        refine lv_aload_n hx hb dL_law_959 rfl (lv_at hl 9 rfl) ?_
        refine lv_bipush (v := 10) hx hb dL_law_960 (by decide) ?_
        refine r_many ⟨hx, hb, hml, hown, hts⟩ hK hO hL hA hw hZ hS (w := 10) (by decide) (v := Z 0 0 1) w_m10 (cwV 1 hts (gB_V w_ml_L_33 w_im_X5_many w_se_X5_many w_in_X5 w_co_X5_many) rfl rfl rfl (by decide +kernel) ⟨Nat.le_trans (Nat.le_of_ble_eq_true rfl) hfr, Nat.le_trans (Nat.le_of_ble_eq_true rfl) hlo⟩) hl.1 (Nat.le_of_ble_eq_true rfl) hc dL_law_962 (fun H locs hw => ?_)
        refine lv_icmp_gt (tgt := 972) hx hb dL_law_965 (by decide) (fun _ => ?_) (fun h => absurd hlate h)
        refine lv_iconst (v := 0) hx hb dL_law_972 (by decide) ?_
        refine lv_icmp_eq (tgt := 978) hx hb dL_law_973 (by decide) (fun _ => ?_) (fun h => absurd (by decide) h)
        refine lv_iinc (v := (nI (b + 1))) (lv' := [(10, .int (nI (b + 1))), (11, .int on), (9, .int (nI a)), (7, .long d), (6, .ref (ad 92 0)), (5, .int (nI nr)), (4, .ref (ad 91 0)), (3, .ref (ad 90 0)), (2, .int (nI ns)), (1, .ref (ad 0 0)), (0, .ref (K0 0))]) hx hb dL_law_978 hl (k := 1) rfl (nI_1 _) (by decide) rfl (fun ls hl => ?_)
        refine lv_goto (tgt := 891) hx hb dL_law_981 (by decide) ?_
        exact ih (b + 1) S H locs ls (by omega) hS hw (lv_sub hl [0, 2, 3, 4, 5, 6, 7, 8, 9, 10] rfl)
      · refine lv_iload hx hb dL_law_908 (lv_at hl 0 rfl) ?_
        refine lv_if_lt (tgt := 931) hx hb dL_law_910 (by decide) (fun h => absurd h hn) (fun _ => ?_)
        refine lv_aload hx hb dL_law_913 (lv_at hl 4 rfl) ?_
        refine lv_iload hx hb dL_law_915 (lv_at hl 1 rfl) ?_
        refine r_ald ⟨hx, hb, hml, hown, hts⟩ hK hw (i := b) (v := Z 12 0 b) m92 (by decide) h92 (by omega) (by omega) (g8 b (by omega)).symm dL_law_917 ?_
        refine lv_aload_n hx hb dL_law_918 rfl (lv_at hl 9 rfl) ?_
        refine lv_iload hx hb dL_law_919 (lv_at hl 2 rfl) ?_
        refine lv_iconst (v := 0) hx hb dL_law_921 (by decide) ?_
        refine r_joiner ⟨hx, hb, hml, hown, hts⟩ hK hO hL hA hw hZ hS (j := a) (w := 0) hj (by decide) (v := Z 6 a 0) w_j0 (cwV 2 hts (gB_V w_ml_L_52 w_im_X5_ofJoiner w_se_X5_ofJoiner w_in_X5 w_co_X5_ofJoiner) rfl rfl rfl (by decide +kernel) ⟨Nat.le_trans (Nat.le_of_ble_eq_true rfl) hfr, Nat.le_trans (Nat.le_of_ble_eq_true rfl) hlo⟩) hl.1 (Nat.le_of_ble_eq_true rfl) hc dL_law_922 (fun S H locs hS hw => ?_)
        refine lv_iconst (v := (-1)) hx hb dL_law_925 (by decide) ?_
        refine lv_ixor hx hb dL_law_926 ?_
        refine lv_iand hx hb dL_law_927 ?_
        refine lv_if_ne (tgt := 976) hx hb dL_law_928 (by decide) (fun h => absurd hs h) (fun _ => ?_)
        refine lv_iload hx hb dL_law_931 (lv_at hl 0 rfl) ?_
        refine lv_if_lt (tgt := 978) hx hb dL_law_933 (by decide) (fun h => absurd h hn) (fun _ => ?_)
        refine lv_aload_n hx hb dL_law_936 rfl (lv_at hl 9 rfl) ?_
        refine lv_iload hx hb dL_law_937 (lv_at hl 2 rfl) ?_
        refine lv_iconst (v := 4) hx hb dL_law_939 (by decide) ?_
        refine r_joiner ⟨hx, hb, hml, hown, hts⟩ hK hO hL hA hw hZ hS (j := a) (w := 4) hj (by decide) (v := (sp_X2_rightsOf Z a)) w_j4 (cwV 2 hts (gB_V w_ml_L_52 w_im_X5_ofJoiner w_se_X5_ofJoiner w_in_X5 w_co_X5_ofJoiner) rfl rfl rfl (by decide +kernel) ⟨Nat.le_trans (Nat.le_of_ble_eq_true rfl) hfr, Nat.le_trans (Nat.le_of_ble_eq_true rfl) hlo⟩) hl.1 (Nat.le_of_ble_eq_true rfl) hc dL_law_940 (fun S H locs hS hw => ?_)
        refine lv_iload hx hb dL_law_943 (lv_at hl 1 rfl) ?_
        refine lv_ishr hx hb dL_law_945 ?_
        refine lv_iconst (v := 1) hx hb dL_law_946 (by decide) ?_
        refine lv_iand hx hb dL_law_947 ?_
        refine lv_iconst (v := 1) hx hb dL_law_948 (by decide) ?_
        refine lv_icmp_ne (tgt := 956) hx hb dL_law_949 (by decide) (fun h => absurd (hh.mpr hlate) h) (fun _ => ?_)
        refine lv_iconst (v := 1) hx hb dL_law_952 (by decide) ?_
        refine lv_goto (tgt := 957) hx hb dL_law_953 (by decide) ?_
        refine lv_iload hx hb dL_law_957 (lv_at hl 0 rfl) ?_
        refine lv_aload_n hx hb dL_law_959 rfl (lv_at hl 9 rfl) ?_
        refine lv_bipush (v := 10) hx hb dL_law_960 (by decide) ?_
        refine r_many ⟨hx, hb, hml, hown, hts⟩ hK hO hL hA hw hZ hS (w := 10) (by decide) (v := Z 0 0 1) w_m10 (cwV 1 hts (gB_V w_ml_L_33 w_im_X5_many w_se_X5_many w_in_X5 w_co_X5_many) rfl rfl rfl (by decide +kernel) ⟨Nat.le_trans (Nat.le_of_ble_eq_true rfl) hfr, Nat.le_trans (Nat.le_of_ble_eq_true rfl) hlo⟩) hl.1 (Nat.le_of_ble_eq_true rfl) hc dL_law_962 (fun H locs hw => ?_)
        refine lv_icmp_gt (tgt := 972) hx hb dL_law_965 (by decide) (fun h => absurd h hlate) (fun _ => ?_)
        refine lv_iconst (v := 1) hx hb dL_law_968 (by decide) ?_
        refine lv_goto (tgt := 973) hx hb dL_law_969 (by decide) ?_
        refine lv_icmp_eq (tgt := 978) hx hb dL_law_973 (by decide) (fun _ => ?_) (fun h => absurd (by decide) h)
        refine lv_iinc (v := (nI (b + 1))) (lv' := [(10, .int (nI (b + 1))), (11, .int on), (9, .int (nI a)), (7, .long d), (6, .ref (ad 92 0)), (5, .int (nI nr)), (4, .ref (ad 91 0)), (3, .ref (ad 90 0)), (2, .int (nI ns)), (1, .ref (ad 0 0)), (0, .ref (K0 0))]) hx hb dL_law_978 hl (k := 1) rfl (nI_1 _) (by decide) rfl (fun ls hl => ?_)
        refine lv_goto (tgt := 891) hx hb dL_law_981 (by decide) ?_
        exact ih (b + 1) S H locs ls (by omega) hS hw (lv_sub hl [0, 2, 3, 4, 5, 6, 7, 8, 9, 10] rfl)

set_option maxHeartbeats 4000000 in
set_option maxRecDepth 100000 in
theorem law_o {p : Program} {l : Launch} {e : Env} {R : Room} {s : State} {m : MethodId} {args : Array Value} {below : List Frame} {meth : Method} {c : Code} {Q : State → Prop} {D : va_G} {cI cG cJ cO : ClassId} {K0 : Nat → Nat} {A : Nat → Prop} {L : List (Nat × Nat)} {ad : Nat → Nat → Nat} (F : CallFix p m c cL_law 17 s args BIG RL) (hK : va_K D vwCl (ktys cI cG cJ cO) s) (hO : OW A K0 s) (hL : ∀ f o, cid f o = true → (f, o) ∈ L) (hA : ∀ q, s.heap.size ≤ q → A q) (hst : l.stackTraces = false) (hfr : 8 ≤ R.frames) (hlo : 180 ≤ R.locals) (hRc : 2000 ≤ R.cells) (hRs : 20000 ≤ R.slots) (h1 : K0 1 < 2 ^ 31) (m92 : (92, 0) ∈ L) {ns nr : Nat} (hnr : nr ≤ 6) {st : Nat → Int32} {ce : Nat → Nat → va_E} (h92 : ce 92 0 = .inl (cI, nr, .inl st)) {r : Nat} (hr : r < 512) {Z M : STT} (hZ : RLn r Z M) (hN : NI Z) (g6 : Z 1 0 1 = nI nr) (g8 : ∀ k, k < nr → Z 12 0 k = st k) {d : Int64} {J : Nat} (hJ : Z 0 0 0 = nI J) (hJ8 : J ≤ 8) (kk : ∀ (S : STT) (H : Heap) (locs : List Loc) (ls : Array Slot), RLn r S M → wk D A L ad (cK cI cJ ad ce S) s.heap H locs → lv_has ls 17 [(7, .long d), (6, .ref (ad 92 0)), (5, .int (nI nr)), (4, .ref (ad 91 0)), (3, .ref (ad 90 0)), (2, .int (nI ns)), (1, .ref (ad 0 0)), (0, .ref (K0 0))] → W p l e R s m args below meth c H locs 500 4000 Q (F0 m 990 ls [])) : ∀ (n a : Nat) (S : STT) (H : Heap) (locs : List Loc) (ls : Array Slot), a + n = J → RLn r S M → wk D A L ad (cK cI cJ ad ce S) s.heap H locs → lv_has ls 17 [(9, .int (nI a)), (7, .long d), (6, .ref (ad 92 0)), (5, .int (nI nr)), (4, .ref (ad 91 0)), (3, .ref (ad 90 0)), (2, .int (nI ns)), (1, .ref (ad 0 0)), (0, .ref (K0 0))] → W p l e R s m args below meth c H locs 500 4000 Q (F0 m 878 ls []) := by
  obtain ⟨hx, hb, hml, hown, hts⟩ := F
  have hc : 500 ≤ R.cells ∧ 4000 ≤ R.slots := ⟨by omega, by omega⟩
  have eJ : (Z 0 0 0).toNatClampNeg = J := by rw [hJ, q_cl (by omega)]
  intro n
  induction n with
  | zero =>
    intro a S H locs ls ha hS hw hl
    refine lv_iload hx hb dL_law_878 (lv_at hl 0 rfl) ?_
    refine lv_aload_n hx hb dL_law_880 rfl (lv_at hl 7 rfl) ?_
    refine lv_iconst (v := 4) hx hb dL_law_881 (by decide) ?_
    refine r_many ⟨hx, hb, hml, hown, hts⟩ hK hO hL hA hw hZ hS (w := 4) (by decide) (v := nI J) (w_m4.trans hJ) (cwV 1 hts (gB_V w_ml_L_33 w_im_X5_many w_se_X5_many w_in_X5 w_co_X5_many) rfl rfl rfl (by decide +kernel) ⟨Nat.le_trans (Nat.le_of_ble_eq_true rfl) hfr, Nat.le_trans (Nat.le_of_ble_eq_true rfl) hlo⟩) hl.1 (Nat.le_of_ble_eq_true rfl) hc dL_law_882 (fun H locs hw => ?_)
    refine lv_icmp_ge (tgt := 990) hx hb dL_law_885 (by decide) (fun _ => ?_) (fun h => absurd (nI_le (by omega) (by omega)) h)
    exact kk S H locs ls hS hw (lv_sub hl [1, 2, 3, 4, 5, 6, 7, 8] rfl)
  | succ n ih =>
    intro a S H locs ls ha hS hw hl
    have hlt : ¬ nI J ≤ nI a := nI_ge (by omega) (by omega)
    have hj : a < (Z 0 0 0).toNatClampNeg := by omega
    refine lv_iload hx hb dL_law_878 (lv_at hl 0 rfl) ?_
    refine lv_aload_n hx hb dL_law_880 rfl (lv_at hl 7 rfl) ?_
    refine lv_iconst (v := 4) hx hb dL_law_881 (by decide) ?_
    refine r_many ⟨hx, hb, hml, hown, hts⟩ hK hO hL hA hw hZ hS (w := 4) (by decide) (v := nI J) (w_m4.trans hJ) (cwV 1 hts (gB_V w_ml_L_33 w_im_X5_many w_se_X5_many w_in_X5 w_co_X5_many) rfl rfl rfl (by decide +kernel) ⟨Nat.le_trans (Nat.le_of_ble_eq_true rfl) hfr, Nat.le_trans (Nat.le_of_ble_eq_true rfl) hlo⟩) hl.1 (Nat.le_of_ble_eq_true rfl) hc dL_law_882 (fun H locs hw => ?_)
    refine lv_icmp_ge (tgt := 990) hx hb dL_law_885 (by decide) (fun h => absurd h hlt) (fun _ => ?_)
    refine lv_iconst (v := 0) hx hb dL_law_888 (by decide) ?_
    refine lv_istore (lv' := [(10, .int 0), (9, .int (nI a)), (7, .long d), (6, .ref (ad 92 0)), (5, .int (nI nr)), (4, .ref (ad 91 0)), (3, .ref (ad 90 0)), (2, .int (nI ns)), (1, .ref (ad 0 0)), (0, .ref (K0 0))]) hx hb dL_law_889 hl (by decide) rfl (fun ls hl => ?_)
    refine law_r ⟨hx, hb, hml, hown, hts⟩ hK hO hL hA hst hfr hlo hRc hRs h1 m92 hnr h92 hr hZ hN g6 g8 (a := a) (by omega) hj (fun S H locs ls hS hw hl => ?_) nr 0 S H locs ls (Nat.zero_add nr) hS hw (lv_sub hl [0, 1, 2, 3, 4, 5, 6, 7, 8, 9] rfl)
    refine lv_iinc (v := (nI (a + 1))) (lv' := [(9, .int (nI (a + 1))), (7, .long d), (6, .ref (ad 92 0)), (5, .int (nI nr)), (4, .ref (ad 91 0)), (3, .ref (ad 90 0)), (2, .int (nI ns)), (1, .ref (ad 0 0)), (0, .ref (K0 0))]) hx hb dL_law_984 hl (k := 0) rfl (nI_1 _) (by decide) rfl (fun ls hl => ?_)
    refine lv_goto (tgt := 878) hx hb dL_law_987 (by decide) ?_
    exact ih (a + 1) S H locs ls (by omega) hS hw (lv_sub hl [0, 1, 2, 3, 4, 5, 6, 7, 8] rfl)

set_option maxHeartbeats 4000000 in
set_option maxRecDepth 100000 in
theorem law_end {p : Program} {l : Launch} {e : Env} {R : Room} {s : State} {m : MethodId} {args : Array Value} {below : List Frame} {meth : Method} {c : Code} {Q : State → Prop} {D : va_G} {cI cG cJ cO : ClassId} {K0 : Nat → Nat} {A : Nat → Prop} {L : List (Nat × Nat)} {ad : Nat → Nat → Nat} (F : CallFix p m c cL_law 17 s args BIG RL) (hK : va_K D vwCl (ktys cI cG cJ cO) s) (hO : OW A K0 s) (hL : ∀ f o, cid f o = true → (f, o) ∈ L) (hA : ∀ q, s.heap.size ≤ q → A q) (hst : l.stackTraces = false) (hfr : 8 ≤ R.frames) (hlo : 180 ≤ R.locals) (hRc : 2000 ≤ R.cells) (hRs : 20000 ≤ R.slots) (h1 : K0 1 < 2 ^ 31) (m92 : (92, 0) ∈ L) {ns nr : Nat} (hnr : nr ≤ 6) {st : Nat → Int32} {ce : Nat → Nat → va_E} (h92 : ce 92 0 = .inl (cI, nr, .inl st)) {kd nd : Nat → Int32} (kk : ∀ (S : STT) (H : Heap) (locs : List Loc) (ls : Array Slot), wk D A L ad (cK cI cJ ad ce S) s.heap H locs → W p l e R s m args below meth c H locs 500 4000 Q (F0 m 1005 ls [.int 1])) {S : STT} (hLS : LSt kd nd st ns nr 50 S) {H : Heap} {locs : List Loc} {ls : Array Slot} (hw : wk D A L ad (cK cI cJ ad ce S) s.heap H locs) (hl : lv_has ls 17 [(6, .ref (ad 92 0)), (5, .int (nI nr)), (4, .ref (ad 91 0)), (3, .ref (ad 90 0)), (2, .int (nI ns)), (1, .ref (ad 0 0)), (0, .ref (K0 0))]) : W p l e R s m args below meth c H locs 500 4000 Q (F0 m 869 ls []) := by
  obtain ⟨hx, hb, hml, hown, hts⟩ := F
  have hc : 500 ≤ R.cells ∧ 4000 ≤ R.slots := ⟨by omega, by omega⟩
  obtain ⟨r, M, g1, hS, hN, g4, g5, g6, g7, g8, g9⟩ := id hLS
  obtain ⟨d, hd, hZ, hsame⟩ := dig_one (r := r) (by omega) hS
  refine lv_aload_n hx hb dL_law_869 rfl (lv_at hl 5 rfl) ?_
  refine r_digest ⟨hx, hb, hml, hown, hts⟩ hK hO hL hA (RLn.ci hS).1 hd hw (cwV 0 hts (gB_V w_ml_L_74 w_im_X5_digest w_se_X5_digest w_in_X5 w_co_X5_digest) rfl rfl rfl (by decide +kernel) ⟨Nat.le_trans (Nat.le_of_ble_eq_true rfl) hfr, Nat.le_trans (Nat.le_of_ble_eq_true rfl) hlo⟩) hl.1 (Nat.le_of_ble_eq_true rfl) hc dL_law_870 (fun H locs hw => ?_)
  have hLZ := hLS.stay (k := 51) (by omega) hS.th (by omega) hZ hN
  generalize (sp_X5_digest S).2 = Z at hZ hw hLZ
  obtain ⟨-, -, -, -, hNZ0, -, g5, g6, g7, g8, g9⟩ := id hLZ
  have hNZ : NI Z := hNZ0
  have v := hZ.c.self.iv
  obtain ⟨J, hJ, hJ8⟩ : ∃ J : Nat, Z 0 0 0 = nI J ∧ J ≤ 8 := ⟨_, cn_eq v.ci.2.2.2.2.1, v.j8⟩
  refine lv_lstore (lv' := [(7, .long d), (6, .ref (ad 92 0)), (5, .int (nI nr)), (4, .ref (ad 91 0)), (3, .ref (ad 90 0)), (2, .int (nI ns)), (1, .ref (ad 0 0)), (0, .ref (K0 0))]) hx hb dL_law_873 hl (by decide) rfl (fun ls hl => ?_)
  refine lv_iconst (v := 0) hx hb dL_law_875 (by decide) ?_
  refine lv_istore (lv' := [(9, .int 0), (7, .long d), (6, .ref (ad 92 0)), (5, .int (nI nr)), (4, .ref (ad 91 0)), (3, .ref (ad 90 0)), (2, .int (nI ns)), (1, .ref (ad 0 0)), (0, .ref (K0 0))]) hx hb dL_law_876 hl (by decide) rfl (fun ls hl => ?_)
  refine law_o ⟨hx, hb, hml, hown, hts⟩ hK hO hL hA hst hfr hlo hRc hRs h1 m92 hnr h92 (r := r + 1) (by omega) hZ hNZ g6 g8 hJ hJ8 (fun S H locs ls hS hw hl => ?_) J 0 Z H locs ls (Nat.zero_add J) hZ hw (lv_sub hl [0, 1, 2, 3, 4, 5, 6, 7, 8] rfl)
  refine lv_aload_n hx hb dL_law_990 rfl (lv_at hl 6 rfl) ?_
  have hd := hsame _ S (by omega) hS
  refine r_digest ⟨hx, hb, hml, hown, hts⟩ hK hO hL hA (RLn.ci hS).1 hd hw (cwV 0 hts (gB_V w_ml_L_74 w_im_X5_digest w_se_X5_digest w_in_X5 w_co_X5_digest) rfl rfl rfl (by decide +kernel) ⟨Nat.le_trans (Nat.le_of_ble_eq_true rfl) hfr, Nat.le_trans (Nat.le_of_ble_eq_true rfl) hlo⟩) hl.1 (Nat.le_of_ble_eq_true rfl) hc dL_law_991 (fun H locs hw => ?_)
  refine lv_lload hx hb dL_law_994 (lv_at hl 0 rfl) ?_
  refine W.lcmp hx hb dL_law_996 ?_
  rw [lg_same]
  refine lv_if_ne (tgt := 1004) hx hb dL_law_997 (by decide) (fun h => absurd (by decide) h) (fun _ => ?_)
  refine lv_iconst (v := 1) hx hb dL_law_1000 (by decide) ?_
  refine lv_goto (tgt := 1005) hx hb dL_law_1001 (by decide) ?_
  exact kk _ H locs ls hw

end P24R
