
set_option maxHeartbeats 4000000 in
set_option maxRecDepth 100000 in
/-- YOUR PART: from the entry, for every script of at most 260 ints, the law comes to its end with true ('hflags': the launch's flags, for a law that throws: no stack traces) -/
theorem whole_start {p : Program} {e : Env} {s : State} {m : MethodId} {below : List Frame} {meth : Method} {c : Code} (l : Launch) (hflags : l.flags = flags0) {b L : Nat} {xs : Nat → Int32} (hL : L ≤ 260) (C0 : lw_At p s m meth c b L xs) : W p l e room_1 s m #[Value.ref b] below meth c s.heap [] 0 0 (lw_Z below #[Value.ref b] s) (entryFrame m ([Value.ref b] : List Value).toArray 17) := by
  obtain ⟨hx, hb, hr, hml, hown, hts0, hX, hbl, hlocks, hgv⟩ := id C0
  obtain ⟨D, cI, cJ, hK⟩ := K_all hts0
  obtain ⟨K0, k0, k1, hO⟩ := OW_all hts0 (flat_of_before _ hgv) hK hX hbl
  have hts : ∀ w ∈ BIG, w.before #[Value.ref b] s = true := fun w h => hts0 w (List.mem_filter.mp h).1
  have hA : ∀ q : Nat, s.heap.size ≤ q → (fun q : Nat => s.heap.size ≤ q) q := fun _ h => h
  have hl := lv_entry ([.ref b]) (n := 17) (Nat.le_of_ble_eq_true rfl)
  rw [lg_entry_eq]
  generalize (lg_sl ([.ref b]) ++ List.replicate (17 - (lg_sl ([.ref b])).length) Slot.unset).toArray = ls at hl ⊢
  have hl : lv_has ls 17 [(0, .ref b)] := hl
  have hw := wk.nil (D := D) (A := fun q => s.heap.size ≤ q) (ad := fun _ _ => 0) (ce := fun _ _ => .inr (0, [])) (H := s.heap)
  refine k_new2 (C := RX5) (T := TX5) (N := 7) (ci := 5) (fs := [.null, .null, .null, .null, .null, .int 0, .int 0]) hx hb hts inB_X5 tyX5 tyX5_ok hown (hts _ w_cl_L_9) (hts _ w_is_X5) (hts _ w_in_X5) hK hw hA rfl (fun j hj => match j, hj with | 0, _ => rfl | 1, _ => rfl | 2, _ => rfl | 3, _ => rfl | 4, _ => rfl | 5, _ => rfl | 6, _ => rfl | n + 7, h => absurd h (by omega)) (Nat.le_of_ble_eq_true rfl) (Nat.le_of_ble_eq_true rfl) 0 0 (by simp) dL_law_0 (fun u1 a0 H hE_u1 ha0 hw => ?_)
  refine lv_dup hx hb dL_law_3 rfl ?_
  refine k_cvx hw (k_rI (As := []) (rest := [.ref a0]) ⟨hx, hb, hml, hown, hts⟩ hK hO hw (ct_X5_init (List.mem_append_right _ (List.mem_singleton_self _)) ha0 up2_eq (fun f o h _ => by simp at h; exact h.1) _ (wk.hA hw hA)) (cwI 0 hts (gB_0 w_co_X5_init) rfl rfl rfl (hts _ w_in_X5) (hts _ w_ml_L_11) (hts _ w_im_X5_init) rfl (by decide +kernel) ⟨by decide, by decide⟩) rfl hl.1 rfl (Nat.le_of_ble_eq_true rfl) dL_law_4 ⟨Nat.le_of_ble_eq_true rfl, Nat.le_of_ble_eq_true rfl⟩) (fun u2 H locs hE_u2 hw => ?_)
  have ha0 : u2 0 0 = a0 := (hE_u2 0 0 (by simp)).trans ha0
  have hw := world_0 (ce := fun _ _ => .inr (0, [])) hw
  refine lv_astore_n (lv' := [(1, .ref a0), (0, .ref b)]) hx hb dL_law_7 rfl hl (by decide) rfl (fun ls hl => ?_)
  rw [← ha0, ← k0] at hl
  refine W.widen (k := 80) (n := 900) (Nat.le_of_ble_eq_true rfl) (Nat.le_of_ble_eq_true rfl) ?_
  refine law_g0 (L := LCl) (ad := u2) (ce := fun _ _ => .inr (0, [])) ⟨hx, hb, hml, hown, hts⟩ hK hO (fun f o h => cid_LCl h) hA (by unfold Launch.stackTraces; rw [hflags]; decide) (Nat.le_of_ble_eq_true rfl) (Nat.le_of_ble_eq_true rfl) (Nat.le_of_ble_eq_true rfl) (Nat.le_of_ble_eq_true rfl) (by rw [k1]; omega) (fun a => LCl_no (by decide)) (fun a => LCl_no (by decide)) (fun a => LCl_no (by decide)) (fun a => LCl_no (by decide)) LA.start (fun H locs ls hS => ?_) hw hl
  refine va_forget (fun q hq => hS.2.2 q hq) ?_
  refine W.widen (k := 756293) (n := 6832744) (Nat.le_of_ble_eq_true rfl) (Nat.le_of_ble_eq_true rfl) ?_
  exact lw_ret hx hb hr hlocks dL_law_1005
