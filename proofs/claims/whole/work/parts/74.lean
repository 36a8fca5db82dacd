abbrev st_step (RS : Nat → (Nat → Nat → Nat → Int32) → (Nat → Nat → Nat → Int32) → Prop) : Prop := ∀ (r : Nat) (S M : (Nat → Nat → Nat → Int32)), r < 512 → RS r S M → ∀ (p1 p2 p3 p4 : Int32), ∃ v, sp_X10_step M p1 p2 p3 p4 = some v ∧ v.2 40 0 0 = wc_step (sp_X5_step S p1 p2 p3 p4).1 ∧ (wc_step (sp_X5_step S p1 p2 p3 p4).1 = 0 → (sp_X5_step S p1 p2 p3 p4).1 = 0 ∧ (sp_X5_step S p1 p2 p3 p4).2.1 = v.1) ∧ RS (r + 1) (wS (sp_X5_step S p1 p2 p3 p4).1 S (sp_X5_step S p1 p2 p3 p4).2.2) v.2
abbrev st_role (RS : Nat → (Nat → Nat → Nat → Int32) → (Nat → Nat → Nat → Int32) → Prop) : Prop := ∀ (r : Nat) (S M : (Nat → Nat → Nat → Int32)), r < 512 → RS r S M → ∀ (p1 p2 : Int32), ∃ v, sp_X10_role M p1 p2 = some v ∧ v.2 40 0 0 = wc_role (sp_X5_role S p1 p2).1 ∧ (wc_role (sp_X5_role S p1 p2).1 = 0 → (sp_X5_role S p1 p2).1 = 0 ∧ (sp_X5_role S p1 p2).2.1 = v.1) ∧ RS (r + 1) (wS (sp_X5_role S p1 p2).1 S (sp_X5_role S p1 p2).2.2) v.2
abbrev st_right (RS : Nat → (Nat → Nat → Nat → Int32) → (Nat → Nat → Nat → Int32) → Prop) : Prop := ∀ (r : Nat) (S M : (Nat → Nat → Nat → Int32)), r < 512 → RS r S M → ∀ (p1 : Int32), ∃ v, sp_X10_right M p1 = some v ∧ v.2 40 0 0 = wc_right (sp_X5_right S p1).1 ∧ (wc_right (sp_X5_right S p1).1 = 0 → (sp_X5_right S p1).1 = 0 ∧ (sp_X5_right S p1).2.1 = v.1) ∧ RS (r + 1) (wS (sp_X5_right S p1).1 S (sp_X5_right S p1).2.2) v.2
abbrev st_stock (RS : Nat → (Nat → Nat → Nat → Int32) → (Nat → Nat → Nat → Int32) → Prop) : Prop := ∀ (r : Nat) (S M : (Nat → Nat → Nat → Int32)), r < 512 → RS r S M → ∀ (p1 p2 : Int32), ∃ v, sp_X10_stock M p1 p2 = some v ∧ v.2 40 0 0 = wc_stock (sp_X5_stock S p1 p2).1 ∧ (wc_stock (sp_X5_stock S p1 p2).1 = 0 → (sp_X5_stock S p1 p2).1 = 0 ∧ (sp_X5_stock S p1 p2).2.1 = v.1) ∧ RS (r + 1) (wS (sp_X5_stock S p1 p2).1 S (sp_X5_stock S p1 p2).2.2) v.2
abbrev st_order (RS : Nat → (Nat → Nat → Nat → Int32) → (Nat → Nat → Nat → Int32) → Prop) : Prop := ∀ (r : Nat) (S M : (Nat → Nat → Nat → Int32)), r < 512 → RS r S M → ∀ (p1 p2 p3 : Int32), ∃ v, sp_X10_order M p1 p2 p3 = some v ∧ v.2 40 0 0 = wc_order (sp_X5_order S p1 p2 p3).1 ∧ (wc_order (sp_X5_order S p1 p2 p3).1 = 0 → (sp_X5_order S p1 p2 p3).1 = 0 ∧ (sp_X5_order S p1 p2 p3).2.1 = v.1) ∧ RS (r + 1) (wS (sp_X5_order S p1 p2 p3).1 S (sp_X5_order S p1 p2 p3).2.2) v.2
abbrev st_late (RS : Nat → (Nat → Nat → Nat → Int32) → (Nat → Nat → Nat → Int32) → Prop) : Prop := ∀ (r : Nat) (S M : (Nat → Nat → Nat → Int32)), r < 512 → RS r S M → ∀ (p1 p2 : Int32), ∃ v, sp_X10_late M p1 p2 = some v ∧ v.2 40 0 0 = wc_late (sp_X5_late S p1 p2).1 ∧ (wc_late (sp_X5_late S p1 p2).1 = 0 → (sp_X5_late S p1 p2).1 = 0 ∧ (sp_X5_late S p1 p2).2.1 = v.1) ∧ RS (r + 1) (wS (sp_X5_late S p1 p2).1 S (sp_X5_late S p1 p2).2.2) v.2
abbrev st_session (RS : Nat → (Nat → Nat → Nat → Int32) → (Nat → Nat → Nat → Int32) → Prop) : Prop := ∀ (r : Nat) (S M : (Nat → Nat → Nat → Int32)), r < 512 → RS r S M → ∀ (p1 p2 p3 : Int32), ∃ v, sp_X10_session M p1 p2 p3 = some v ∧ v.2 40 0 0 = wc_session (sp_X5_session S p1 p2 p3).1 ∧ (wc_session (sp_X5_session S p1 p2 p3).1 = 0 → (sp_X5_session S p1 p2 p3).1 = 0 ∧ (sp_X5_session S p1 p2 p3).2.1 = v.1) ∧ RS (r + 1) (wS (sp_X5_session S p1 p2 p3).1 S (sp_X5_session S p1 p2 p3).2.2) v.2
abbrev st_ofSession (RS : Nat → (Nat → Nat → Nat → Int32) → (Nat → Nat → Nat → Int32) → Prop) : Prop := ∀ (r : Nat) (S M : (Nat → Nat → Nat → Int32)), r < 512 → RS r S M → ∀ (p1 p2 : Int32), ∃ v, sp_X10_ofSession M p1 p2 = some v ∧ v.2 40 0 0 = wc_ofSession (sp_X5_ofSession S p1 p2).1 ∧ (wc_ofSession (sp_X5_ofSession S p1 p2).1 = 0 → (sp_X5_ofSession S p1 p2).1 = 0 ∧ (sp_X5_ofSession S p1 p2).2 = v.1) ∧ RS (r + 1) (wS (sp_X5_ofSession S p1 p2).1 S S) v.2
abbrev st_ofItem (RS : Nat → (Nat → Nat → Nat → Int32) → (Nat → Nat → Nat → Int32) → Prop) : Prop := ∀ (r : Nat) (S M : (Nat → Nat → Nat → Int32)), r < 512 → RS r S M → ∀ (p1 p2 : Int32), ∃ v, sp_X10_ofItem M p1 p2 = some v ∧ v.2 40 0 0 = wc_ofItem (sp_X5_ofItem S p1 p2).1 ∧ (wc_ofItem (sp_X5_ofItem S p1 p2).1 = 0 → (sp_X5_ofItem S p1 p2).1 = 0 ∧ (sp_X5_ofItem S p1 p2).2 = v.1) ∧ RS (r + 1) (wS (sp_X5_ofItem S p1 p2).1 S S) v.2
abbrev st_join (RS : Nat → (Nat → Nat → Nat → Int32) → (Nat → Nat → Nat → Int32) → Prop) : Prop := ∀ (r : Nat) (S M : (Nat → Nat → Nat → Int32)), r < 512 → RS r S M → ∀ (p1 p2 : Int32), ∃ v, sp_X10_join M p1 p2 = some v ∧ v.2 40 0 0 = wc_join (sp_X5_join S p1 p2).1 ∧ (wc_join (sp_X5_join S p1 p2).1 = 0 → (sp_X5_join S p1 p2).1 = 0 ∧ (sp_X5_join S p1 p2).2.1 = v.1) ∧ RS (r + 1) (wS (sp_X5_join S p1 p2).1 S (sp_X5_join S p1 p2).2.2) v.2
abbrev st_leave (RS : Nat → (Nat → Nat → Nat → Int32) → (Nat → Nat → Nat → Int32) → Prop) : Prop := ∀ (r : Nat) (S M : (Nat → Nat → Nat → Int32)), r < 512 → RS r S M → ∀ (p1 : Int32), ∃ v, sp_X10_leave M p1 = some v ∧ v.2 40 0 0 = wc_leave (sp_X5_leave S p1).1 ∧ (wc_leave (sp_X5_leave S p1).1 = 0 → (sp_X5_leave S p1).1 = 0 ∧ (sp_X5_leave S p1).2.1 = v.1) ∧ RS (r + 1) (wS (sp_X5_leave S p1).1 S (sp_X5_leave S p1).2.2) v.2
abbrev st_day (RS : Nat → (Nat → Nat → Nat → Int32) → (Nat → Nat → Nat → Int32) → Prop) : Prop := ∀ (r : Nat) (S M : (Nat → Nat → Nat → Int32)), r < 512 → RS r S M → ∃ v, sp_X10_day M = some v ∧ v.2 40 0 0 = wc_day (sp_X5_day S).1 ∧ (wc_day (sp_X5_day S).1 = 0 → (sp_X5_day S).1 = 0 ∧ (sp_X5_day S).2.1 = v.1) ∧ RS (r + 1) (wS (sp_X5_day S).1 S (sp_X5_day S).2.2) v.2
abbrev st_ofStep (RS : Nat → (Nat → Nat → Nat → Int32) → (Nat → Nat → Nat → Int32) → Prop) : Prop := ∀ (r : Nat) (S M : (Nat → Nat → Nat → Int32)), r < 512 → RS r S M → ∀ (p1 p2 p3 : Int32), ∃ v, sp_X10_ofStep M p1 p2 p3 = some v ∧ v.2 40 0 0 = wc_ofStep (sp_X5_ofStep S p1 p2 p3).1 ∧ (wc_ofStep (sp_X5_ofStep S p1 p2 p3).1 = 0 → (sp_X5_ofStep S p1 p2 p3).1 = 0 ∧ (sp_X5_ofStep S p1 p2 p3).2.1 = v.1) ∧ RS (r + 1) (wS (sp_X5_ofStep S p1 p2 p3).1 S (sp_X5_ofStep S p1 p2 p3).2.2) v.2
abbrev st_ofJoiner (RS : Nat → (Nat → Nat → Nat → Int32) → (Nat → Nat → Nat → Int32) → Prop) : Prop := ∀ (r : Nat) (S M : (Nat → Nat → Nat → Int32)), r < 512 → RS r S M → ∀ (p1 p2 : Int32), ∃ v, sp_X10_ofJoiner M p1 p2 = some v ∧ v.2 40 0 0 = wc_ofJoiner (sp_X5_ofJoiner S p1 p2).1 ∧ (wc_ofJoiner (sp_X5_ofJoiner S p1 p2).1 = 0 → (sp_X5_ofJoiner S p1 p2).1 = 0 ∧ (sp_X5_ofJoiner S p1 p2).2.1 = v.1) ∧ RS (r + 1) (wS (sp_X5_ofJoiner S p1 p2).1 S (sp_X5_ofJoiner S p1 p2).2.2) v.2
abbrev st_many (RS : Nat → (Nat → Nat → Nat → Int32) → (Nat → Nat → Nat → Int32) → Prop) : Prop := ∀ (r : Nat) (S M : (Nat → Nat → Nat → Int32)), r < 512 → RS r S M → ∀ (p1 : Int32), ∃ v, sp_X10_many M p1 = some v ∧ v.2 40 0 0 = wc_many (sp_X5_many S p1).1 ∧ (wc_many (sp_X5_many S p1).1 = 0 → (sp_X5_many S p1).1 = 0 ∧ (sp_X5_many S p1).2 = v.1) ∧ RS (r + 1) (wS (sp_X5_many S p1).1 S S) v.2
abbrev st_meanDays (RS : Nat → (Nat → Nat → Nat → Int32) → (Nat → Nat → Nat → Int32) → Prop) : Prop := ∀ (r : Nat) (S M : (Nat → Nat → Nat → Int32)), r < 512 → RS r S M → ∃ v, sp_X10_meanDays M = some v ∧ (sp_X5_meanDays S).1 = v.1 ∧ RS (r + 1) (sp_X5_meanDays S).2 v.2
abbrev st_rightOn (RS : Nat → (Nat → Nat → Nat → Int32) → (Nat → Nat → Nat → Int32) → Prop) : Prop := ∀ (r : Nat) (S M : (Nat → Nat → Nat → Int32)), r < 512 → RS r S M → ∀ (p1 p2 : Int32), ∃ v, sp_X10_rightOn M p1 p2 = some v ∧ v.2 40 0 0 = wc_rightOn (sp_X5_rightOn S p1 p2).1 ∧ (wc_rightOn (sp_X5_rightOn S p1 p2).1 = 0 → (sp_X5_rightOn S p1 p2).1 = 0 ∧ (sp_X5_rightOn S p1 p2).2.1 = v.1) ∧ RS (r + 1) (wS (sp_X5_rightOn S p1 p2).1 S (sp_X5_rightOn S p1 p2).2.2) v.2
abbrev st_shiftBy (RS : Nat → (Nat → Nat → Nat → Int32) → (Nat → Nat → Nat → Int32) → Prop) : Prop := ∀ (r : Nat) (S M : (Nat → Nat → Nat → Int32)), r < 512 → RS r S M → ∀ (p1 p2 : Int32), ∃ v, sp_X10_shiftBy M p1 p2 = some v ∧ v.2 40 0 0 = wc_shiftBy (sp_X5_shiftBy S p1 p2).1 ∧ (wc_shiftBy (sp_X5_shiftBy S p1 p2).1 = 0 → (sp_X5_shiftBy S p1 p2).1 = 0 ∧ (sp_X5_shiftBy S p1 p2).2.1 = v.1) ∧ RS (r + 1) (wS (sp_X5_shiftBy S p1 p2).1 S (sp_X5_shiftBy S p1 p2).2.2) v.2
abbrev st_next (RS : Nat → (Nat → Nat → Nat → Int32) → (Nat → Nat → Nat → Int32) → Prop) : Prop := ∀ (r : Nat) (S M : (Nat → Nat → Nat → Int32)), r < 512 → RS r S M → ∀ (p1 : Int32), ∃ v, sp_X10_next M p1 = some v ∧ v.2 40 0 0 = wc_next (sp_X5_next S p1).1 ∧ (wc_next (sp_X5_next S p1).1 = 0 → (sp_X5_next S p1).1 = 0 ∧ (sp_X5_next S p1).2 = v.1) ∧ RS (r + 1) (wS (sp_X5_next S p1).1 S S) v.2
abbrev st_waitFor (RS : Nat → (Nat → Nat → Nat → Int32) → (Nat → Nat → Nat → Int32) → Prop) : Prop := ∀ (r : Nat) (S M : (Nat → Nat → Nat → Int32)), r < 512 → RS r S M → ∀ (p1 p2 : Int32), ∃ v, sp_X10_waitFor M p1 p2 = some v ∧ v.2 40 0 0 = wc_waitFor (sp_X5_waitFor S p1 p2).1 ∧ (wc_waitFor (sp_X5_waitFor S p1 p2).1 = 0 → (sp_X5_waitFor S p1 p2).1 = 0 ∧ (sp_X5_waitFor S p1 p2).2 = v.1) ∧ RS (r + 1) (wS (sp_X5_waitFor S p1 p2).1 S S) v.2
abbrev st_digest (RS : Nat → (Nat → Nat → Nat → Int32) → (Nat → Nat → Nat → Int32) → Prop) : Prop := ∀ (r : Nat) (S M : (Nat → Nat → Nat → Int32)), r < 512 → RS r S M → ∃ v, sp_X10_digest M = some v ∧ (sp_X5_digest S).1 = v.1 ∧ RS (r + 1) (sp_X5_digest S).2 v.2
abbrev st_none (RS : Nat → (Nat → Nat → Nat → Int32) → (Nat → Nat → Nat → Int32) → Prop) : Prop := ∀ (r : Nat) (S M : (Nat → Nat → Nat → Int32)), r < 512 → RS r S M → RS (r + 1) S M
theorem lp_end {N r : Nat} (hN : N ≤ 2560) (h : ¬ 5 * r + 5 ≤ N) (h2 : 5 * r ≤ 2560) : nI N - 5 < nI (5 * r) := by
  rw [Int32.lt_iff_toInt_lt, nI_toInt (by omega), Int32.toInt_sub, nI_toInt (by omega)]
  have e5 : (5 : Int32).toInt = 5 := by decide
  rw [e5, Int.bmod_def]
  omega
theorem lp_in {N r : Nat} (hN : N ≤ 2560) (h : 5 * r + 5 ≤ N) : ¬ nI N - 5 < nI (5 * r) := by
  rw [Int32.lt_iff_toInt_lt, nI_toInt (by omega), Int32.toInt_sub, nI_toInt (by omega)]
  have e5 : (5 : Int32).toInt = 5 := by decide
  rw [e5, Int.bmod_def]
  omega
theorem sw_out21 {x : Int32} (h0 : ¬ x = 0) (h1 : ¬ x = 1) (h2 : ¬ x = 2) (h3 : ¬ x = 3) (h4 : ¬ x = 4) (h5 : ¬ x = 5) (h6 : ¬ x = 6) (h7 : ¬ x = 7) (h8 : ¬ x = 8) (h9 : ¬ x = 9) (h10 : ¬ x = 10) (h11 : ¬ x = 11) (h12 : ¬ x = 12) (h13 : ¬ x = 13) (h14 : ¬ x = 14) (h15 : ¬ x = 15) (h16 : ¬ x = 16) (h17 : ¬ x = 17) (h18 : ¬ x = 18) (h19 : ¬ x = 19) (h20 : ¬ x = 20) : x.toInt < 0 ∨ 20 < x.toInt := by
  by_cases a : x.toInt < 0
  · exact Or.inl a
  by_cases b : 20 < x.toInt
  · exact Or.inr b
  exfalso
  have e : ∀ n : Nat, n < 21 → x.toInt = n → x = nI n := fun n hn h => Int32.toInt_inj.mp (by rw [nI_toInt (by omega)]; exact h)
  have : x.toInt = 0 ∨ x.toInt = 1 ∨ x.toInt = 2 ∨ x.toInt = 3 ∨ x.toInt = 4 ∨ x.toInt = 5 ∨ x.toInt = 6 ∨ x.toInt = 7 ∨ x.toInt = 8 ∨ x.toInt = 9 ∨ x.toInt = 10 ∨ x.toInt = 11 ∨ x.toInt = 12 ∨ x.toInt = 13 ∨ x.toInt = 14 ∨ x.toInt = 15 ∨ x.toInt = 16 ∨ x.toInt = 17 ∨ x.toInt = 18 ∨ x.toInt = 19 ∨ x.toInt = 20 := by omega
  rcases this with h | h | h | h | h | h | h | h | h | h | h | h | h | h | h | h | h | h | h | h | h
  · exact h0 (e 0 (by decide) h)
  · exact h1 (e 1 (by decide) h)
  · exact h2 (e 2 (by decide) h)
  · exact h3 (e 3 (by decide) h)
  · exact h4 (e 4 (by decide) h)
  · exact h5 (e 5 (by decide) h)
  · exact h6 (e 6 (by decide) h)
  · exact h7 (e 7 (by decide) h)
  · exact h8 (e 8 (by decide) h)
  · exact h9 (e 9 (by decide) h)
  · exact h10 (e 10 (by decide) h)
  · exact h11 (e 11 (by decide) h)
  · exact h12 (e 12 (by decide) h)
  · exact h13 (e 13 (by decide) h)
  · exact h14 (e 14 (by decide) h)
  · exact h15 (e 15 (by decide) h)
  · exact h16 (e 16 (by decide) h)
  · exact h17 (e 17 (by decide) h)
  · exact h18 (e 18 (by decide) h)
  · exact h19 (e 19 (by decide) h)
  · exact h20 (e 20 (by decide) h)

theorem dL_law_1471 : decode cL_law 1471 = .ok (.iinc 4 5, 3) := by decide +kernel
theorem dL_law_1474 : decode cL_law 1474 = .ok (.goto (-1451), 3) := by decide +kernel
theorem dL_law_1477 : decode cL_law 1477 = .ok (.iconst 1, 1) := by decide +kernel
theorem dL_law_1478 : decode cL_law 1478 = .ok (.ireturn, 1) := by decide +kernel

set_option maxHeartbeats 2000000 in
set_option maxRecDepth 100000 in
theorem law_loop {p : Program} {l : Launch} {e : Env} {s : State} {m : MethodId} {below : List Frame} {meth : Method} {c : Code} {D : va_G} {cI cG cJ cO : ClassId} {K0 : Nat → Nat} {A : Nat → Prop} {ce : Nat → Nat → va_E} {b N : Nat} {xs : Nat → Int32} {RS : Nat → (Nat → Nat → Nat → Int32) → (Nat → Nat → Nat → Int32) → Prop} (h_step : st_step RS) (h_role : st_role RS) (h_right : st_right RS) (h_stock : st_stock RS) (h_order : st_order RS) (h_late : st_late RS) (h_session : st_session RS) (h_ofSession : st_ofSession RS) (h_ofItem : st_ofItem RS) (h_join : st_join RS) (h_leave : st_leave RS) (h_day : st_day RS) (h_ofStep : st_ofStep RS) (h_ofJoiner : st_ofJoiner RS) (h_many : st_many RS) (h_meanDays : st_meanDays RS) (h_rightOn : st_rightOn RS) (h_shiftBy : st_shiftBy RS) (h_next : st_next RS) (h_waitFor : st_waitFor RS) (h_digest : st_digest RS) (h_none : st_none RS) (hRI : ∀ r S M, RS r S M → CI S ∧ CI M) (hx : p.tables.exec = Jvm.exec) (hb : c.code = cL_law) (hr : meth.sig.returnType = ret) (hlocks : meth.locks = false) (hml : c.maxLocals = 9) (hown : s.vm.findClass RL = some m.cls) (hts : ∀ w ∈ BIG, w.before #[Value.ref b] s = true) (hO : ∀ d, OW A K0 (s.setDrawn d)) (hK : ∀ d, va_K D vwCl (ktys cI cG cJ cO) (s.setDrawn d)) (hA : ∀ q, s.heap.size ≤ q → A q) (hA2 : ∀ q, A q → s.heap.size ≤ q) (hst : l.stackTraces = false) (hX : va_X b N xs s s.heap) (hbl : b < s.heap.size) (hbA : ¬ A b) (hN : N ≤ 2560) : ∀ (k r : Nat) (S M : (Nat → Nat → Nat → Int32)) (L : List (Nat × Nat)) (ad : Nat → Nat → Nat) (cp : Nat → Nat) (g : Nat → Int64) (H : Heap) (locs : List Loc) (ls : Array Slot) (d0 : Drawn), r + k = N / 5 → s.drawn.sameBut d0 lw_cs → RS r S M → (∀ f o, cid f o = true → (f, o) ∈ L) → (∀ f o, (f, o) ∈ L → f < 30 → cid f o = true) → MR M L cp → MF M L cp → TL 70 L → (59, 0) ∉ L → (90, 0) ∈ L → wk D A L ad (LWc cI cG cJ cO K0 ad cp ce g M S) s.heap H locs → lv_has ls 9 [(4, .int (nI (5 * r))), (3, .ref (ad 90 0)), (2, .ref (ad 30 0)), (1, .ref (ad 0 0)), (0, .ref b)] → W p l e room_1 (s.setDrawn d0) m #[Value.ref b] below meth c H locs (100 + 602 * r) (2000 + 2712 * r) (lw_Z below #[Value.ref b] s) (F0 m 23 ls []) := by
  intro k
  induction k with
  | zero =>
    intro r S M L ad cp g H locs ls d0 hk hd0 hRS hL hLc hR hF hT h59 hm hw hl
    refine lv_iload hx hb dL_law_23 (lv_at hl 0 rfl) ?_
    refine lv_aload_n hx hb dL_law_25 rfl (lv_at hl 4 rfl) ?_
    refine va_slen hx hb hX hbl hbA hw.2.2 dL_law_26 ?_
    refine lv_iconst (v := 5) hx hb dL_law_27 (by decide) ?_
    refine lv_isub hx hb dL_law_28 ?_
    refine lv_icmp_gt (tgt := 1477) hx hb dL_law_29 (by decide) (fun _ => ?_) (fun h => absurd (lp_end hN (by omega) (by omega)) h)
    refine lv_iconst (v := 1) hx hb dL_law_1477 (by decide) ?_
    refine va_forget (fun q hq => ?_) ?_
    · exact hA2 _ (hw.2.2.2.2 q hq)
    refine W.widen (k := 632321) (n := 7199140) (by omega) (by omega) ?_
    exact lw_ret hd0 hx hb hr hlocks dL_law_1478
  | succ k ih =>
    intro r S M L ad cp g H locs ls d0 hk hd0 hRS hL hLc hR hF hT h59 hm hw hl
    have hr5 : 5 * r + 5 ≤ N := by omega
    have hr9 : r < 512 := by omega
    obtain ⟨hI, hIM⟩ := hRI _ _ _ hRS
    refine lv_iload hx hb dL_law_23 (lv_at hl 0 rfl) ?_
    refine lv_aload_n hx hb dL_law_25 rfl (lv_at hl 4 rfl) ?_
    refine va_slen hx hb hX hbl hbA hw.2.2 dL_law_26 ?_
    refine lv_iconst (v := 5) hx hb dL_law_27 (by decide) ?_
    refine lv_isub hx hb dL_law_28 ?_
    refine lv_icmp_gt (tgt := 1477) hx hb dL_law_29 (by decide) (fun h => absurd h (lp_in hN hr5)) (fun _ => ?_)
    refine lv_aload_n hx hb dL_law_32 rfl (lv_at hl 4 rfl) ?_
    refine lv_iload hx hb dL_law_33 (lv_at hl 0 rfl) ?_
    refine k_scr (s := s.setDrawn d0) hx hb hX hbl hbA hw (n := 5 * r) (by omega) hN dL_law_35 ?_
    refine lv_bipush (v := 31) hx hb dL_law_36 (by decide) ?_
    refine lv_iand hx hb dL_law_38 ?_
    have hnext : ∀ (S2 M2 : (Nat → Nat → Nat → Int32)), RS (r + 1) S2 M2 → ∀ (d1 : Drawn), s.drawn.sameBut d1 lw_cs → ∀ (L2 : List (Nat × Nat)) (u2 : Nat → Nat → Nat) (cp2 : Nat → Nat) (g2 : Nat → Int64) (H : Heap) (locs : List Loc) (ls1 : Array Slot), GRW L ad M2 (L2, u2, cp2) → wk D A L2 u2 (LWc cI cG cJ cO K0 u2 cp2 ce g2 M2 S2) s.heap H locs → lv_has ls1 9 [(4, .int (nI (5 * r))), (3, .ref (u2 90 0)), (2, .ref (u2 30 0)), (1, .ref (u2 0 0)), (0, .ref b)] → W p l e room_1 (s.setDrawn d1) m #[Value.ref b] below meth c H locs (100 + 602 * r + 602) (2000 + 2712 * r + 2712) (lw_Z below #[Value.ref b] s) (F0 m 1471 ls1 []) := by
      intro S2 M2 hRS2 d1 hd1 L2 u2 cp2 g2 H locs ls1 hG hw hl
      refine lv_iinc (v := nI (5 * (r + 1))) (lv' := [(4, .int (nI (5 * (r + 1)))), (3, .ref (u2 90 0)), (2, .ref (u2 30 0)), (1, .ref (u2 0 0)), (0, .ref b)]) hx hb dL_law_1471 hl (k := 0) rfl (nI_add _ 5) (by decide) rfl (fun ls hl => ?_)
      refine lv_goto (tgt := 23) hx hb dL_law_1474 (by decide) ?_
      refine W.widen (k := 100 + 602 * (r + 1)) (n := 2000 + 2712 * (r + 1)) (by omega) (by omega) ?_
      refine ih (r + 1) S2 M2 L2 u2 cp2 g2 H locs ls d1 (by omega) hd1 hRS2 (fun f o h => hG.2.1 _ (hL f o h)) (fun f o h hf => (hG.2.2.1 _ h).elim (fun y => hLc f o y hf) (fun y => absurd y.1 (by show ¬ 38 ≤ f; omega))) hG.1.1 hG.1.2 (fun i hi => (hG.2.2.1 i hi).elim (hT i) (fun y => Or.inl (by omega))) (fun z => (hG.2.2.1 _ z).elim h59 (fun y => absurd y.2 (by decide))) (hG.2.1 _ hm) hw hl
    have F : CallFix p m c cL_law 9 (s.setDrawn d0) #[Value.ref b] BIG RL := ⟨hx, hb, hml, hown, dr_words hts _⟩
    obtain ⟨x, hxx⟩ : ∃ x, xs (5 * r) &&& 31 = x := ⟨_, rfl⟩
    rw [hxx]
    by_cases c0 : x = 0
    · refine lv_tableIn (off := 97) (tgt := 136) hx hb dL_law_39 (by rw [c0]; decide) (by rw [c0]; decide) (by rw [c0]; rfl) (by decide) ?_
      obtain ⟨v, hE, h1, h2, hv⟩ := h_step r S M hr9 hRS (xs (5 * r + 1)) (xs (5 * r + 2)) (xs (5 * r + 3)) (xs (5 * r + 4))
      exact law_step F (hO _) (hK _) hA hst (by decide) (by decide) (show 100 + 602 * r + 602 ≤ 632321 from by omega) (show 2000 + 2712 * r + 2712 ≤ 7199140 from by omega) hX hbl hbA hr5 hN hL hLc hI hR hF hIM hT h59 hm hw hl hE (hRI _ _ _ hv).2 h1 h2 (fun L2 u2 cp2 g2 H1 locs1 ls1 hG hw hl => hnext _ _ hv d0 hd0 L2 u2 cp2 g2 H1 locs1 ls1 hG hw hl)
    by_cases c1 : x = 1
    · refine lv_tableIn (off := 189) (tgt := 228) hx hb dL_law_39 (by rw [c1]; decide) (by rw [c1]; decide) (by rw [c1]; rfl) (by decide) ?_
      obtain ⟨v, hE, h1, h2, hv⟩ := h_role r S M hr9 hRS (xs (5 * r + 1)) (xs (5 * r + 2))
      exact law_role F (hO _) (hK _) hA hst (by decide) (by decide) (show 100 + 602 * r + 602 ≤ 632321 from by omega) (show 2000 + 2712 * r + 2712 ≤ 7199140 from by omega) hX hbl hbA hr5 hN hL hLc hI hR hF hIM hT h59 hm hw hl hE (hRI _ _ _ hv).2 h1 h2 (fun L2 u2 cp2 g2 H1 locs1 ls1 hG hw hl => hnext _ _ hv d0 hd0 L2 u2 cp2 g2 H1 locs1 ls1 hG hw hl)
    by_cases c2 : x = 2
    · refine lv_tableIn (off := 257) (tgt := 296) hx hb dL_law_39 (by rw [c2]; decide) (by rw [c2]; decide) (by rw [c2]; rfl) (by decide) ?_
      obtain ⟨v, hE, h1, h2, hv⟩ := h_right r S M hr9 hRS (xs (5 * r + 1))
      exact law_right F (hO _) (hK _) hA hst (by decide) (by decide) (show 100 + 602 * r + 602 ≤ 632321 from by omega) (show 2000 + 2712 * r + 2712 ≤ 7199140 from by omega) hX hbl hbA hr5 hN hL hLc hI hR hF hIM hT h59 hm hw hl hE (hRI _ _ _ hv).2 h1 h2 (fun L2 u2 cp2 g2 H1 locs1 ls1 hG hw hl => hnext _ _ hv d0 hd0 L2 u2 cp2 g2 H1 locs1 ls1 hG hw hl)
    by_cases c3 : x = 3
    · refine lv_tableIn (off := 313) (tgt := 352) hx hb dL_law_39 (by rw [c3]; decide) (by rw [c3]; decide) (by rw [c3]; rfl) (by decide) ?_
      obtain ⟨v, hE, h1, h2, hv⟩ := h_stock r S M hr9 hRS (xs (5 * r + 1)) (xs (5 * r + 2))
      exact law_stock F (hO _) (hK _) hA hst (by decide) (by decide) (show 100 + 602 * r + 602 ≤ 632321 from by omega) (show 2000 + 2712 * r + 2712 ≤ 7199140 from by omega) hX hbl hbA hr5 hN hL hLc hI hR hF hIM hT h59 hm hw hl hE (hRI _ _ _ hv).2 h1 h2 (fun L2 u2 cp2 g2 H1 locs1 ls1 hG hw hl => hnext _ _ hv d0 hd0 L2 u2 cp2 g2 H1 locs1 ls1 hG hw hl)
    by_cases c4 : x = 4
    · refine lv_tableIn (off := 381) (tgt := 420) hx hb dL_law_39 (by rw [c4]; decide) (by rw [c4]; decide) (by rw [c4]; rfl) (by decide) ?_
      obtain ⟨v, hE, h1, h2, hv⟩ := h_order r S M hr9 hRS (xs (5 * r + 1)) (xs (5 * r + 2)) (xs (5 * r + 3))
      exact law_order F (hO _) (hK _) hA hst (by decide) (by decide) (show 100 + 602 * r + 602 ≤ 632321 from by omega) (show 2000 + 2712 * r + 2712 ≤ 7199140 from by omega) hX hbl hbA hr5 hN hL hLc hI hR hF hIM hT h59 hm hw hl hE (hRI _ _ _ hv).2 h1 h2 (fun L2 u2 cp2 g2 H1 locs1 ls1 hG hw hl => hnext _ _ hv d0 hd0 L2 u2 cp2 g2 H1 locs1 ls1 hG hw hl)
    by_cases c5 : x = 5
    · refine lv_tableIn (off := 461) (tgt := 500) hx hb dL_law_39 (by rw [c5]; decide) (by rw [c5]; decide) (by rw [c5]; rfl) (by decide) ?_
      obtain ⟨v, hE, h1, h2, hv⟩ := h_late r S M hr9 hRS (xs (5 * r + 1)) (xs (5 * r + 2))
      exact law_late F (hO _) (hK _) hA hst (by decide) (by decide) (show 100 + 602 * r + 602 ≤ 632321 from by omega) (show 2000 + 2712 * r + 2712 ≤ 7199140 from by omega) hX hbl hbA hr5 hN hL hLc hI hR hF hIM hT h59 hm hw hl hE (hRI _ _ _ hv).2 h1 h2 (fun L2 u2 cp2 g2 H1 locs1 ls1 hG hw hl => hnext _ _ hv d0 hd0 L2 u2 cp2 g2 H1 locs1 ls1 hG hw hl)
    by_cases c6 : x = 6
    · refine lv_tableIn (off := 529) (tgt := 568) hx hb dL_law_39 (by rw [c6]; decide) (by rw [c6]; decide) (by rw [c6]; rfl) (by decide) ?_
      obtain ⟨v, hE, h1, h2, hv⟩ := h_session r S M hr9 hRS (xs (5 * r + 1)) (xs (5 * r + 2)) (xs (5 * r + 3))
      exact law_session F (hO _) (hK _) hA hst (by decide) (by decide) (show 100 + 602 * r + 602 ≤ 632321 from by omega) (show 2000 + 2712 * r + 2712 ≤ 7199140 from by omega) hX hbl hbA hr5 hN hL hLc hI hR hF hIM hT h59 hm hw hl hE (hRI _ _ _ hv).2 h1 h2 (fun L2 u2 cp2 g2 H1 locs1 ls1 hG hw hl => hnext _ _ hv d0 hd0 L2 u2 cp2 g2 H1 locs1 ls1 hG hw hl)
    by_cases c7 : x = 7
    · refine lv_tableIn (off := 609) (tgt := 648) hx hb dL_law_39 (by rw [c7]; decide) (by rw [c7]; decide) (by rw [c7]; rfl) (by decide) ?_
      obtain ⟨v, hE, h1, h2, hv⟩ := h_ofSession r S M hr9 hRS (xs (5 * r + 1)) (xs (5 * r + 2))
      exact law_ofSession F (hO _) (hK _) hA hst (by decide) (by decide) (show 100 + 602 * r + 602 ≤ 632321 from by omega) (show 2000 + 2712 * r + 2712 ≤ 7199140 from by omega) hX hbl hbA hr5 hN hL hLc hI hR hF hIM hT h59 hm hw hl hE (hRI _ _ _ hv).2 h1 h2 (fun L2 u2 cp2 g2 H1 locs1 ls1 hG hw hl => hnext _ _ hv d0 hd0 L2 u2 cp2 g2 H1 locs1 ls1 hG hw hl)
    by_cases c8 : x = 8
    · refine lv_tableIn (off := 677) (tgt := 716) hx hb dL_law_39 (by rw [c8]; decide) (by rw [c8]; decide) (by rw [c8]; rfl) (by decide) ?_
      obtain ⟨v, hE, h1, h2, hv⟩ := h_ofItem r S M hr9 hRS (xs (5 * r + 1)) (xs (5 * r + 2))
      exact law_ofItem F (hO _) (hK _) hA hst (by decide) (by decide) (show 100 + 602 * r + 602 ≤ 632321 from by omega) (show 2000 + 2712 * r + 2712 ≤ 7199140 from by omega) hX hbl hbA hr5 hN hL hLc hI hR hF hIM hT h59 hm hw hl hE (hRI _ _ _ hv).2 h1 h2 (fun L2 u2 cp2 g2 H1 locs1 ls1 hG hw hl => hnext _ _ hv d0 hd0 L2 u2 cp2 g2 H1 locs1 ls1 hG hw hl)
    by_cases c9 : x = 9
    · refine lv_tableIn (off := 745) (tgt := 784) hx hb dL_law_39 (by rw [c9]; decide) (by rw [c9]; decide) (by rw [c9]; rfl) (by decide) ?_
      obtain ⟨v, hE, h1, h2, hv⟩ := h_join r S M hr9 hRS (xs (5 * r + 1)) (xs (5 * r + 2))
      exact law_join F (hO _) (hK _) hA hst (by decide) (by decide) (show 100 + 602 * r + 602 ≤ 632321 from by omega) (show 2000 + 2712 * r + 2712 ≤ 7199140 from by omega) hX hbl hbA hr5 hN hL hLc hI hR hF hIM hT h59 hm hw hl hE (hRI _ _ _ hv).2 h1 h2 (fun L2 u2 cp2 g2 H1 locs1 ls1 hG hw hl => hnext _ _ hv d0 hd0 L2 u2 cp2 g2 H1 locs1 ls1 hG hw hl)
    by_cases c10 : x = 10
    · refine lv_tableIn (off := 813) (tgt := 852) hx hb dL_law_39 (by rw [c10]; decide) (by rw [c10]; decide) (by rw [c10]; rfl) (by decide) ?_
      obtain ⟨v, hE, h1, h2, hv⟩ := h_leave r S M hr9 hRS (xs (5 * r + 1))
      exact law_leave F (hO _) (hK _) hA hst (by decide) (by decide) (show 100 + 602 * r + 602 ≤ 632321 from by omega) (show 2000 + 2712 * r + 2712 ≤ 7199140 from by omega) hX hbl hbA hr5 hN hL hLc hI hR hF hIM hT h59 hm hw hl hE (hRI _ _ _ hv).2 h1 h2 (fun L2 u2 cp2 g2 H1 locs1 ls1 hG hw hl => hnext _ _ hv d0 hd0 L2 u2 cp2 g2 H1 locs1 ls1 hG hw hl)
    by_cases c11 : x = 11
    · refine lv_tableIn (off := 869) (tgt := 908) hx hb dL_law_39 (by rw [c11]; decide) (by rw [c11]; decide) (by rw [c11]; rfl) (by decide) ?_
      obtain ⟨v, hE, h1, h2, hv⟩ := h_day r S M hr9 hRS
      exact law_day F (hO _) (hK _) hA hst (by decide) (by decide) (show 100 + 602 * r + 602 ≤ 632321 from by omega) (show 2000 + 2712 * r + 2712 ≤ 7199140 from by omega) hX hbl hbA hr5 hN hL hLc hI hR hF hIM hT h59 hm hw hl hE (hRI _ _ _ hv).2 h1 h2 (fun L2 u2 cp2 g2 H1 locs1 ls1 hG hw hl => hnext _ _ hv d0 hd0 L2 u2 cp2 g2 H1 locs1 ls1 hG hw hl)
    by_cases c12 : x = 12
    · refine lv_tableIn (off := 913) (tgt := 952) hx hb dL_law_39 (by rw [c12]; decide) (by rw [c12]; decide) (by rw [c12]; rfl) (by decide) ?_
      obtain ⟨v, hE, h1, h2, hv⟩ := h_ofStep r S M hr9 hRS (xs (5 * r + 1)) (xs (5 * r + 2)) (xs (5 * r + 3))
      exact law_ofStep F (hO _) (hK _) hA hst (by decide) (by decide) (show 100 + 602 * r + 602 ≤ 632321 from by omega) (show 2000 + 2712 * r + 2712 ≤ 7199140 from by omega) hX hbl hbA hr5 hN hL hLc hI hR hF hIM hT h59 hm hw hl hE (hRI _ _ _ hv).2 h1 h2 (fun L2 u2 cp2 g2 H1 locs1 ls1 hG hw hl => hnext _ _ hv d0 hd0 L2 u2 cp2 g2 H1 locs1 ls1 hG hw hl)
    by_cases c13 : x = 13
    · refine lv_tableIn (off := 993) (tgt := 1032) hx hb dL_law_39 (by rw [c13]; decide) (by rw [c13]; decide) (by rw [c13]; rfl) (by decide) ?_
      obtain ⟨v, hE, h1, h2, hv⟩ := h_ofJoiner r S M hr9 hRS (xs (5 * r + 1)) (xs (5 * r + 2))
      exact law_ofJoiner F (hO _) (hK _) hA hst (by decide) (by decide) (show 100 + 602 * r + 602 ≤ 632321 from by omega) (show 2000 + 2712 * r + 2712 ≤ 7199140 from by omega) hX hbl hbA hr5 hN hL hLc hI hR hF hIM hT h59 hm hw hl hE (hRI _ _ _ hv).2 h1 h2 (fun L2 u2 cp2 g2 H1 locs1 ls1 hG hw hl => hnext _ _ hv d0 hd0 L2 u2 cp2 g2 H1 locs1 ls1 hG hw hl)
    by_cases c14 : x = 14
    · refine lv_tableIn (off := 1061) (tgt := 1100) hx hb dL_law_39 (by rw [c14]; decide) (by rw [c14]; decide) (by rw [c14]; rfl) (by decide) ?_
      obtain ⟨v, hE, h1, h2, hv⟩ := h_many r S M hr9 hRS (xs (5 * r + 1))
      exact law_many F (hO _) (hK _) hA hst (by decide) (by decide) (show 100 + 602 * r + 602 ≤ 632321 from by omega) (show 2000 + 2712 * r + 2712 ≤ 7199140 from by omega) hX hbl hbA hr5 hN hL hLc hI hR hF hIM hT h59 hm hw hl hE (hRI _ _ _ hv).2 h1 h2 (fun L2 u2 cp2 g2 H1 locs1 ls1 hG hw hl => hnext _ _ hv d0 hd0 L2 u2 cp2 g2 H1 locs1 ls1 hG hw hl)
    by_cases c15 : x = 15
    · refine lv_tableIn (off := 1117) (tgt := 1156) hx hb dL_law_39 (by rw [c15]; decide) (by rw [c15]; decide) (by rw [c15]; rfl) (by decide) ?_
      obtain ⟨v, hE, h1, hv⟩ := h_meanDays r S M hr9 hRS
      exact law_meanDays ⟨hx, hb, hml, hown, hts⟩ hO hK hd0 hA hst (by decide) (by decide) (show 100 + 602 * r + 602 ≤ 632321 from by omega) (show 2000 + 2712 * r + 2712 ≤ 7199140 from by omega) hX hbl hbA hr5 hN hL hLc hI hR hF hIM hT h59 hm hw hl hE h1 (fun L2 u2 cp2 g2 H1 locs1 ls1 d1 hd1 hG hw hl => hnext _ _ hv d1 hd1 L2 u2 cp2 g2 H1 locs1 ls1 hG hw hl)
    by_cases c16 : x = 16
    · refine lv_tableIn (off := 1158) (tgt := 1197) hx hb dL_law_39 (by rw [c16]; decide) (by rw [c16]; decide) (by rw [c16]; rfl) (by decide) ?_
      obtain ⟨v, hE, h1, h2, hv⟩ := h_rightOn r S M hr9 hRS (xs (5 * r + 1)) (xs (5 * r + 2))
      exact law_rightOn F (hO _) (hK _) hA hst (by decide) (by decide) (show 100 + 602 * r + 602 ≤ 632321 from by omega) (show 2000 + 2712 * r + 2712 ≤ 7199140 from by omega) hX hbl hbA hr5 hN hL hLc hI hR hF hIM hT h59 hm hw hl hE (hRI _ _ _ hv).2 h1 h2 (fun L2 u2 cp2 g2 H1 locs1 ls1 hG hw hl => hnext _ _ hv d0 hd0 L2 u2 cp2 g2 H1 locs1 ls1 hG hw hl)
    by_cases c17 : x = 17
    · refine lv_tableIn (off := 1226) (tgt := 1265) hx hb dL_law_39 (by rw [c17]; decide) (by rw [c17]; decide) (by rw [c17]; rfl) (by decide) ?_
      obtain ⟨v, hE, h1, h2, hv⟩ := h_shiftBy r S M hr9 hRS (xs (5 * r + 1)) (xs (5 * r + 2))
      exact law_shiftBy F (hO _) (hK _) hA hst (by decide) (by decide) (show 100 + 602 * r + 602 ≤ 632321 from by omega) (show 2000 + 2712 * r + 2712 ≤ 7199140 from by omega) hX hbl hbA hr5 hN hL hLc hI hR hF hIM hT h59 hm hw hl hE (hRI _ _ _ hv).2 h1 h2 (fun L2 u2 cp2 g2 H1 locs1 ls1 hG hw hl => hnext _ _ hv d0 hd0 L2 u2 cp2 g2 H1 locs1 ls1 hG hw hl)
    by_cases c18 : x = 18
    · refine lv_tableIn (off := 1294) (tgt := 1333) hx hb dL_law_39 (by rw [c18]; decide) (by rw [c18]; decide) (by rw [c18]; rfl) (by decide) ?_
      obtain ⟨v, hE, h1, h2, hv⟩ := h_next r S M hr9 hRS (xs (5 * r + 1))
      exact law_next F (hO _) (hK _) hA hst (by decide) (by decide) (show 100 + 602 * r + 602 ≤ 632321 from by omega) (show 2000 + 2712 * r + 2712 ≤ 7199140 from by omega) hX hbl hbA hr5 hN hL hLc hI hR hF hIM hT h59 hm hw hl hE (hRI _ _ _ hv).2 h1 h2 (fun L2 u2 cp2 g2 H1 locs1 ls1 hG hw hl => hnext _ _ hv d0 hd0 L2 u2 cp2 g2 H1 locs1 ls1 hG hw hl)
    by_cases c19 : x = 19
    · refine lv_tableIn (off := 1350) (tgt := 1389) hx hb dL_law_39 (by rw [c19]; decide) (by rw [c19]; decide) (by rw [c19]; rfl) (by decide) ?_
      obtain ⟨v, hE, h1, h2, hv⟩ := h_waitFor r S M hr9 hRS (xs (5 * r + 1)) (xs (5 * r + 2))
      exact law_waitFor F (hO _) (hK _) hA hst (by decide) (by decide) (show 100 + 602 * r + 602 ≤ 632321 from by omega) (show 2000 + 2712 * r + 2712 ≤ 7199140 from by omega) hX hbl hbA hr5 hN hL hLc hI hR hF hIM hT h59 hm hw hl hE (hRI _ _ _ hv).2 h1 h2 (fun L2 u2 cp2 g2 H1 locs1 ls1 hG hw hl => hnext _ _ hv d0 hd0 L2 u2 cp2 g2 H1 locs1 ls1 hG hw hl)
    by_cases c20 : x = 20
    · refine lv_tableIn (off := 1418) (tgt := 1457) hx hb dL_law_39 (by rw [c20]; decide) (by rw [c20]; decide) (by rw [c20]; rfl) (by decide) ?_
      obtain ⟨v, hE, h1, hv⟩ := h_digest r S M hr9 hRS
      exact law_digest F (hO _) (hK _) hA hst (by decide) (by decide) (show 100 + 602 * r + 602 ≤ 632321 from by omega) (show 2000 + 2712 * r + 2712 ≤ 7199140 from by omega) hX hbl hbA hr5 hN hL hLc hI hR hF hIM hT h59 hm hw hl hE h1 (fun L2 u2 cp2 g2 H1 locs1 ls1 hG hw hl => hnext _ _ hv d0 hd0 L2 u2 cp2 g2 H1 locs1 ls1 hG hw hl)
    refine lv_tableOut (tgt := 1471) hx hb dL_law_39 (sw_out21 c0 c1 c2 c3 c4 c5 c6 c7 c8 c9 c10 c11 c12 c13 c14 c15 c16 c17 c18 c19 c20) (by decide) ?_
    refine W.widen (k := 100 + 602 * r + 602) (n := 2000 + 2712 * r + 2712) (by omega) (by omega) ?_
    exact hnext _ _ (h_none r S M hr9 hRS) d0 hd0 L ad cp g H locs ls (GRW.same hR hF) hw hl
