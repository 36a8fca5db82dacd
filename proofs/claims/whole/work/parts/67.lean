section MADD2
variable {p : Program} {l : Launch} {e : Env} {R : Room} {s : State} {m : MethodId} {args : Array Value} {below : List Frame} {meth : Method} {c : Code} {H : Heap} {locs : List Loc} {cells slots : Nat} {Q : State → Prop} {cc : ByteArray} {pc : Nat} {ls : Array Slot} {rest st0 : List Value} {D : va_G} {A : Nat → Prop} {tys : List (ClassId × FieldType)} {K0 : Nat → Nat} {H0 : Heap} {L L' : List (Nat × Nat)} {ad ad' : Nat → Nat → Nat} {ce ce' : Nat → Nat → va_E} {cI cG cJ cO : ClassId} {mc ms : Nat} {cp cp2 : Nat → Nat} {S S1 S2 T U : Nat → Nat → Nat → Int32} {u : Nat → Nat → Nat}
theorem upa_same {f o : Nat} : upa ad f o (ad f o) = ad := by
  funext g p
  by_cases h : (g, p) = (f, o)
  · cases h; exact upa_eq
  · exact upa_ne (i := (g, p)) h
theorem mel_add {t t' k q : Nat} {m : Int32} (ht : t < 5) : mel K0 (upa ad (38 + t) 0 q) (addS S t m) t' k = mel K0 ad S t' k := by
  have hu : ∀ g p, g ≠ 38 + t → upa ad (38 + t) 0 q g p = ad g p := fun g p z => upa_ne (i := (g, p)) (fun y => z (congrArg Prod.fst y))
  unfold mel
  rw [hu 43 k (by omega), hu 44 k (by omega), hu 45 k (by omega), hu 46 k (by omega), hu 52 k (by omega), addS_r (by decide) (by decide)]
theorem mK_add {t q c2 n : Nat} {h : Nat → Option Nat} (ht : t < 5) (hn : n < 22) (hc : c2 ≠ 0) (hh : h = (fun k => if k < n + 1 then some (mel K0 ad S t k) else none)) : mK cI cO K0 (upa ad (38 + t) 0 q) (fun t' => if t' = t then c2 else cp t') ce (addS S t (nI (n + 1))) = up2 (up2 (mK cI cO K0 ad cp ce S) (31 + t) 0 (.inr (2, [.int (S 42 t 0 + 1), .ref q, .int (nI (n + 1))]))) (38 + t) 0 (.inl (cO, c2, .inr (.inr (.inr (.inr h))))) := by
  funext f o
  by_cases h2 : f = 38 + t ∧ o = 0
  · obtain ⟨rfl, rfl⟩ := h2
    rw [up2_eq, mK_in (by omega) (by omega), mc_b ht, if_pos rfl, hh]
    have e : msz (addS S t (nI (n + 1))) t = n + 1 := by
      unfold msz; rw [addS_zi ht, nI_clamp (by omega)]
    rw [e]
    simp only [mel_add ht]
  rw [up2_o h2]
  by_cases h1 : f = 31 + t ∧ o = 0
  · obtain ⟨rfl, rfl⟩ := h1
    rw [up2_eq, mK_in (by omega) (by omega), mc_l ht, addS_42, addS_zi ht]
    show (.inr (2, [_, .ref (if (if t = t then c2 else cp t) = 0 then K0 0 else _), _]) : va_E) = _
    rw [if_pos rfl, if_neg hc, upa_eq]
  rw [up2_o h1]
  by_cases q3 : f < 30 ∨ 53 ≤ f
  · rw [mK_ou q3, mK_ou q3]
  rw [mK_in (by omega) (by omega), mK_in (by omega) (by omega)]
  exact mc_add ht (by omega) (by omega) h1 h2
/-- how a list may have grown -/
def GL (t n : Nat) (L : List (Nat × Nat)) (ad : Nat → Nat → Nat) (cp : Nat → Nat) (L2 : List (Nat × Nat)) (u2 : Nat → Nat → Nat) (cp2 : Nat → Nat) : Prop :=
  (L2 = L ∨ L2 = L ++ [(38 + t, 0)]) ∧ (38 + t, 0) ∈ L2 ∧ (∀ f o, f ≠ 38 + t → u2 f o = ad f o) ∧ (∀ t', t' ≠ t → cp2 t' = cp t') ∧ n < cp2 t ∧ (cp2 t = 10 ∨ cp2 t = 15 ∨ cp2 t = 22)
variable {nL : Nat}
set_option maxHeartbeats 1000000 in
theorem m_add (F : CallFix p m c cc nL s args BIG RX10) (hsz : ls.size = nL) (hK : va_K D vwCl (ktys cI cG cJ cO) s) (hO : OW A K0 s) (hA : ∀ q, s.heap.size ≤ q → A q) (hw : wk D A L ad (mK cI cO K0 ad cp ce S) s.heap H locs) (t : Nat) (ht : t < 5) {n v a : Nat} (hn : msz S t = n) (hnI : mszI S t = nI n) (hn22 : n < 22) (hlist : (31 + t, 0) ∈ L) (hcap : n ≤ cp t) (hval : cp t = 0 ∨ cp t = 10 ∨ cp t = 15 ∨ cp t = 22) (hz : cp t = 0 → (38 + t, 0) ∉ L) (hnz : cp t ≠ 0 → (38 + t, 0) ∈ L) (h59 : (59, 0) ∉ L) (hv : EL K0 L ad (mK cI cO K0 ad cp ce S) v) (hvm : mel K0 ad S t n = v) (hel : ∀ k, k < n → EL K0 L ad (mK cI cO K0 ad cp ce S) (mel K0 ad S t k)) (ha : ad (31 + t) 0 = a)
    (hfr : 20 ≤ R.frames) (hlo : 1000 ≤ R.locals) (hc : cells + 1 ≤ R.cells) (hs : slots + 22 ≤ R.slots) (hW : (rest.map fun v => v.category).sum ≤ 8) (hdg : decode cc pc = .ok (.invokevirtual 214, 3))
    (kk : ∀ (L2 : List (Nat × Nat)) (u2 : Nat → Nat → Nat) (cp2 : Nat → Nat) (H1 : Heap) (locs1 : List Loc), GL t n L ad cp L2 u2 cp2 → wk D A L2 u2 (mK cI cO K0 u2 cp2 ce (addS S t (nI (n + 1)))) s.heap H1 locs1 → W p l e R s m args below meth c H1 locs1 (cells + 1) (slots + 22) Q (F0 m (pc + 3) ls (.int 1 :: rest))) : W p l e R s m args below meth c H locs cells slots Q (F0 m pc ls (.ref v :: .ref a :: rest)) := by
  have hcl : mK cI cO K0 ad cp ce S (31 + t) 0 = .inr (2, [.int (S 42 t 0), .ref (if cp t = 0 then K0 0 else ad (38 + t) 0), .int (nI n)]) := by rw [mK_in (by omega) (by omega), mc_l ht, hnI]
  by_cases c0 : cp t = 0
  · obtain rfl : n = 0 := by omega
    rw [if_pos c0] at hcl
    refine k_cin hw (k_rV2 (f := 31 + t) (o := 0) (As := [.ref v]) (rest := rest) F hK hO hw (ct_Jx4a65c_add_9ea2d_e (lf := 31 + t) (nf := 38 + t) hlist ha (hz c0) hcl hv _ (wk.hA hw hA)) (cwV 1 F.2.2.2.2 (gB_V w_ml_X10_214 w_im_Jx4a65c_add_9ea2d w_se_Jx4a65c_add_9ea2d w_in_Jx4a65c w_co_Jx4a65c_add_9ea2d) rfl rfl rfl (by decide +kernel) ⟨Nat.le_trans (by decide) hfr, Nat.le_trans (by decide) hlo⟩) hlist ha hcl rfl rfl hsz rfl hW hdg ⟨hc, hs⟩) (fun q H locs hw => ?_)
    refine kk (L ++ [(38 + t, 0)]) (upa ad (38 + t) 0 q) (fun t' => if t' = t then 10 else cp t') H locs ⟨Or.inr rfl, List.mem_append_right _ (List.mem_singleton_self _), fun f o z => upa_ne (i := (f, o)) (fun y => z (congrArg Prod.fst y)), fun t' z => if_neg z, by dsimp only; rw [if_pos rfl]; decide, Or.inl (if_pos rfl)⟩ ?_
    rw [mK_add (n := 0) (h := va_up (fun _ => none) 0 (some v)) ht (by decide) (by decide) (by
      funext k
      unfold va_up
      by_cases h : k = 0
      · subst h; rw [if_pos rfl, if_pos (by decide), hvm]
      · rw [if_neg h, if_neg (by omega)])]
    exact hw
  · have hb := hnz c0
    rw [if_neg c0] at hcl
    have hcb : mK cI cO K0 ad cp ce S (38 + t) 0 = .inl (cO, cp t, .inr (.inr (.inr (.inr (fun k => if k < n then some (mel K0 ad S t k) else none))))) := by rw [mK_in (by omega) (by omega), mc_b ht, hn]
    by_cases c1 : n < cp t
    · refine k_ci hw (k_rV2 (f := 31 + t) (o := 0) (As := [.ref v]) (rest := rest) F hK hO hw (ct_Jx4a65c_add_9ea2d_r (lf := 31 + t) (bf := 38 + t) hlist ha hcl hb rfl hcb (by omega) c1 (by omega) hv _ (wk.hA hw hA)) (cwV 1 F.2.2.2.2 (gB_V w_ml_X10_214 w_im_Jx4a65c_add_9ea2d w_se_Jx4a65c_add_9ea2d w_in_Jx4a65c w_co_Jx4a65c_add_9ea2d) rfl rfl rfl (by decide +kernel) ⟨Nat.le_trans (by decide) hfr, Nat.le_trans (by decide) hlo⟩) hlist ha hcl rfl rfl hsz rfl hW hdg ⟨by omega, by omega⟩) (fun H locs hw => ?_)
      refine W.widen (k := cells + 1) (n := slots + 22) (by omega) (by omega) ?_
      refine kk L ad cp H locs ⟨Or.inl rfl, hb, fun _ _ _ => rfl, fun _ _ => rfl, c1, by omega⟩ ?_
      have e := mK_add (K0 := K0) (cI := cI) (cO := cO) (ad := ad) (cp := cp) (ce := ce) (S := S) (t := t) (q := ad (38 + t) 0) (c2 := cp t) (n := n) (h := va_up (fun k => if k < n then some (mel K0 ad S t k) else none) n (some v)) ht hn22 c0 (by
        funext k
        unfold va_up
        by_cases h : k = n
        · subst h; rw [if_pos rfl, if_pos (Nat.lt_succ_self _), hvm]
        · rw [if_neg h]
          show (if k < n then some (mel K0 ad S t k) else none) = _
          by_cases h2 : k < n
          · rw [if_pos h2, if_pos (by omega)]
          · rw [if_neg h2, if_neg (by omega)])
      rw [upa_same, show (fun t' => if t' = t then cp t else cp t') = cp from by
        funext t'
        by_cases z : t' = t
        · rw [if_pos z, z]
        · rw [if_neg z]] at e
      rw [e, up2_comm (by omega)]
      exact hw
    · obtain rfl : n = cp t := by omega
      obtain ⟨n2, hn2⟩ : ∃ n2, cp t = 10 ∧ n2 = 15 ∨ cp t = 15 ∧ n2 = 22 := by
        rcases hval with h | h | h | h
        · exact absurd h c0
        · exact ⟨15, Or.inl ⟨h, rfl⟩⟩
        · exact ⟨22, Or.inr ⟨h, rfl⟩⟩
        · omega
      refine k_cin hw (k_rV2 (f := 31 + t) (o := 0) (As := [.ref v]) (rest := rest) F hK hO hw (ct_Jx4a65c_add_9ea2d_c (lf := 31 + t) (nf := 59) (bf := 38 + t) hlist ha h59 hcl hb rfl hcb hn2 (fun k y h1 h2 => by
        have h2 : (if k < cp t then some (mel K0 ad S t k) else none) = some y := h2
        rw [if_pos h1] at h2
        obtain rfl := Option.some.inj h2
        exact hel k h1) (by omega) hv _ (wk.hA hw hA)) (cwV 1 F.2.2.2.2 (gB_V w_ml_X10_214 w_im_Jx4a65c_add_9ea2d w_se_Jx4a65c_add_9ea2d w_in_Jx4a65c w_co_Jx4a65c_add_9ea2d) rfl rfl rfl (by decide +kernel) ⟨Nat.le_trans (by decide) hfr, Nat.le_trans (by decide) hlo⟩) hlist ha hcl rfl rfl hsz rfl hW hdg ⟨hc, hs⟩) (fun q H locs hw => ?_)
      have hw := wk.swap hb h59 hw
      refine kk L (upa ad (38 + t) 0 q) (fun t' => if t' = t then n2 else cp t') H locs ⟨Or.inl rfl, hb, fun f o z => upa_ne (i := (f, o)) (fun y => z (congrArg Prod.fst y)), fun t' z => if_neg z, by dsimp only; rw [if_pos rfl]; omega, by dsimp only; rw [if_pos rfl]; omega⟩ ?_
      rw [mK_add (n := cp t) (h := va_up (va_cpy (fun k => if k < cp t then some (mel K0 ad S t k) else none) (fun _ => none) 0 0 (cp t)) (cp t) (some v)) ht hn22 (by omega) (by
        funext k
        unfold va_up
        by_cases h : k = cp t
        · subst h; rw [if_pos rfl, if_pos (Nat.lt_succ_self _), hvm]
        · rw [if_neg h]
          unfold va_cpy
          by_cases h2 : k < cp t
          · rw [if_pos ⟨Nat.zero_le _, by omega⟩, if_pos (show k < cp t + 1 from by omega)]
            show (if 0 + (k - 0) < cp t then some (mel K0 ad S t (0 + (k - 0))) else none) = _
            rw [Nat.sub_zero, Nat.zero_add, if_pos h2]
          · rw [if_neg (fun z => h2 (by omega)), if_neg (by omega)])]
      exact hw
/-- elements of a list -/
theorem EL.el (hR : MR S L cp) {t k : Nat} (ht : t < 5) (hk : k < msz S t) : EL K0 L ad (mK cI cO K0 ad cp ce S) (mel K0 ad S t k) := by
  have : t = 0 ∨ t = 1 ∨ t = 2 ∨ t = 3 ∨ t = 4 := by omega
  rcases this with rfl | rfl | rfl | rfl | rfl
  · exact Or.inl ⟨43, k, 12, _, (RX9, TX9, 4), hR.2.2.2.1 k hk, rfl, mke_43, rfl, w_ca_X9⟩
  · by_cases c : 127 < S 12 0 k
    · exact Or.inl ⟨52, k, 0, _, (RJ6, TJ6, 1), (hR.2.2.2.2.1 k hk).1 c, (if_pos c).symm, mke_52, rfl, w_ca_Integer⟩
    · exact Or.inr ⟨_, (vb_of (hR.2.2.2.2.1 k hk).2 c).2, (if_neg c).symm⟩
  · exact Or.inl ⟨44, k, 10, _, (RX7, TX7, 4), hR.2.2.2.2.2.1 k hk, rfl, mke_44, rfl, w_ca_X7⟩
  · exact Or.inl ⟨45, k, 11, _, (RX8, TX8, 3), hR.2.2.2.2.2.2.1 k hk, rfl, mke_45, rfl, w_ca_X8⟩
  · exact Or.inl ⟨46, k, 9, _, (RX6, TX6, 8), hR.2.2.2.2.2.2.2 46 k (by decide) (by decide) hk, rfl, mke_46, rfl, w_ca_X6⟩
end MADD2
