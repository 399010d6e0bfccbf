set_option maxHeartbeats 4000000 in
set_option maxRecDepth 100000 in
theorem c_noTown (l : Launch) (dC : Nat → ClassId) (dI : Nat → Nat → Nat) (sz : Nat) (h0 : Nat) (x_tape : Nat) (x_reader : Nat) (x_current : Nat) (x_images : Nat) (x_kept : Nat) (x_slots : Nat) (x_diary : Nat) (x_base : Nat) (x_trial : Nat) (x_plan : Nat) (x_orders : Nat) (x_unanswered : Nat) (t0 : Nat) (t1 : Nat) (t2 : Nat) (t3 : Nat) (t4 : Nat) (t5 : Nat) (t6 : Nat) (t7 : Nat) (t8 : Nat) (t9 : Nat)  : Met l yX8_noTown (.code yX8_noTown cX8_noTown 1 (some .boolean) :: ALLW) ({ frames := 0, cells := 0, slots := 0, locals := 0 }) (va_Pc [.ref h0] (fun U => U.heap.size = sz ∧ va_P (dC, dI) vwCl [(h0, .inr (8, [.ref x_tape, .ref x_reader, .ref x_current, .ref x_images, .ref x_kept, .ref x_slots, .ref x_diary, .ref x_base, .ref x_trial, .ref x_plan, .ref x_orders, .ref x_unanswered, .int 0, .int 0, .int (-1)])), (x_current, .inr (7, [.int 0, .int 0, .int 0, .int 0, .int 0, .int 0, .int 0, .int 0, .ref t0, .ref t1, .ref t2, .ref t3, .ref t4, .ref t5, .ref t6, .ref t7, .ref t8, .ref t9]))] U.heap ∧ va_K (dC, dI) vwCl [] U ∧ va_D (fun _ => True) [(h0, .inr (8, [.ref x_tape, .ref x_reader, .ref x_current, .ref x_images, .ref x_kept, .ref x_slots, .ref x_diary, .ref x_base, .ref x_trial, .ref x_plan, .ref x_orders, .ref x_unanswered, .int 0, .int 0, .int (-1)])), (x_current, .inr (7, [.int 0, .int 0, .int 0, .int 0, .int 0, .int 0, .int 0, .int 0, .ref t0, .ref t1, .ref t2, .ref t3, .ref t4, .ref t5, .ref t6, .ref t7, .ref t8, .ref t9]))])) (va_Qi (fun (r : Int32) (_ : Unit) => r = 1) (fun (_ : Unit) (t : State) => va_P (dC, dI) vwCl [(h0, .inr (8, [.ref x_tape, .ref x_reader, .ref x_current, .ref x_images, .ref x_kept, .ref x_slots, .ref x_diary, .ref x_base, .ref x_trial, .ref x_plan, .ref x_orders, .ref x_unanswered, .int 0, .int 0, .int (-1)])), (x_current, .inr (7, [.int 0, .int 0, .int 0, .int 0, .int 0, .int 0, .int 0, .int 0, .ref t0, .ref t1, .ref t2, .ref t3, .ref t4, .ref t5, .ref t6, .ref t7, .ref t8, .ref t9]))] t.heap ∧ va_K (dC, dI) vwCl [] t ∧ va_D (va_A [(h0, .inr (8, [.ref x_tape, .ref x_reader, .ref x_current, .ref x_images, .ref x_kept, .ref x_slots, .ref x_diary, .ref x_base, .ref x_trial, .ref x_plan, .ref x_orders, .ref x_unanswered, .int 0, .int 0, .int (-1)])), (x_current, .inr (7, [.int 0, .int 0, .int 0, .int 0, .int 0, .int 0, .int 0, .int 0, .ref t0, .ref t1, .ref t2, .ref t3, .ref t4, .ref t5, .ref t6, .ref t7, .ref t8, .ref t9]))] sz) [(h0, .inr (8, [.ref x_tape, .ref x_reader, .ref x_current, .ref x_images, .ref x_kept, .ref x_slots, .ref x_diary, .ref x_base, .ref x_trial, .ref x_plan, .ref x_orders, .ref x_unanswered, .int 0, .int 0, .int (-1)])), (x_current, .inr (7, [.int 0, .int 0, .int 0, .int 0, .int 0, .int 0, .int 0, .int 0, .ref t0, .ref t1, .ref t2, .ref t3, .ref t4, .ref t5, .ref t6, .ref t7, .ref t8, .ref t9]))]) (va_A [(h0, .inr (8, [.ref x_tape, .ref x_reader, .ref x_current, .ref x_images, .ref x_kept, .ref x_slots, .ref x_diary, .ref x_base, .ref x_trial, .ref x_plan, .ref x_orders, .ref x_unanswered, .int 0, .int 0, .int (-1)])), (x_current, .inr (7, [.int 0, .int 0, .int 0, .int 0, .int 0, .int 0, .int 0, .int 0, .ref t0, .ref t1, .ref t2, .ref t3, .ref t4, .ref t5, .ref t6, .ref t7, .ref t8, .ref t9]))] sz)) 0 0 (va_A [(h0, .inr (8, [.ref x_tape, .ref x_reader, .ref x_current, .ref x_images, .ref x_kept, .ref x_slots, .ref x_diary, .ref x_base, .ref x_trial, .ref x_plan, .ref x_orders, .ref x_unanswered, .int 0, .int 0, .int (-1)])), (x_current, .inr (7, [.int 0, .int 0, .int 0, .int 0, .int 0, .int 0, .int 0, .int 0, .ref t0, .ref t1, .ref t2, .ref t3, .ref t4, .ref t5, .ref t6, .ref t7, .ref t8, .ref t9]))] sz) := by
  refine Met.ofW (cc := cX8_noTown) (maxL := 1) (ret := (some .boolean)) (by decide) rfl ?_
  intro p e s m args below meth c s₁ B hml hv
  obtain ⟨rfl, hsz, hP, hK, hD0⟩ := hv
  have hx := B.exec
  have hb := B.bytes
  have hr := B.returns
  have hts0 := atoms_spec (ws := (.code yX8_noTown cX8_noTown 1 (some .boolean) :: ALLW)) B.pre
  have hts := fun (w : Cond) (h : w ∈ ALLW) => hts0 w (List.mem_cons_of_mem _ h)
  have hown : s.vm.findClass RX8 = some m.cls := findClass_of_methodNamed B.named
  have hlocks := B.notSynchronized
  subst hsz
  have hD := hD0.self (sz := s.heap.size)
  generalize hAe : va_A [(h0, .inr (8, [.ref x_tape, .ref x_reader, .ref x_current, .ref x_images, .ref x_kept, .ref x_slots, .ref x_diary, .ref x_base, .ref x_trial, .ref x_plan, .ref x_orders, .ref x_unanswered, .int 0, .int 0, .int (-1)])), (x_current, .inr (7, [.int 0, .int 0, .int 0, .int 0, .int 0, .int 0, .int 0, .int 0, .ref t0, .ref t1, .ref t2, .ref t3, .ref t4, .ref t5, .ref t6, .ref t7, .ref t8, .ref t9]))] s.heap.size = A at hD ⊢
  have hA : ∀ q : Nat, s.heap.size ≤ q → A q := fun q h => by rw [← hAe]; exact Or.inr h
  have hS : va_S A s.heap s.heap [] := va_S.rf
  have hP : va_P (dC, dI) vwCl [(h0, .inr (8, [.ref x_tape, .ref x_reader, .ref x_current, .ref x_images, .ref x_kept, .ref x_slots, .ref x_diary, .ref x_base, .ref x_trial, .ref x_plan, .ref x_orders, .ref x_unanswered, .int 0, .int 0, .int (-1)])), (x_current, .inr (7, [.int 0, .int 0, .int 0, .int 0, .int 0, .int 0, .int 0, .int 0, .ref t0, .ref t1, .ref t2, .ref t3, .ref t4, .ref t5, .ref t6, .ref t7, .ref t8, .ref t9]))] s.heap := hP
  have hl := lv_entry ([.ref h0]) (n := 1) (Nat.le_of_ble_eq_true rfl)
  rw [lg_entry_eq]
  generalize (lg_sl ([.ref h0]) ++ List.replicate (1 - (lg_sl ([.ref h0])).length) Slot.unset).toArray = ls at hl ⊢
  have hl : lv_has ls 1 [(0, .ref h0)] := hl
  refine lv_aload_n hx hb dX8_noTown_0 rfl (lv_at hl 0 rfl) ?_
  refine va_get (D := (dC, dI)) (ci := 8) (v := .ref x_current) (C := RX8) (T := TX8) (N := 15) hx hb hts inA8 hown hK hP 0 rfl rfl 2 (by decide) (hts _ w_24) (fun _ h9 => h9) rfl dX8_noTown_1 ?_
  refine va_get (D := (dC, dI)) (ci := 7) (v := .int 0) (C := RX7) (T := TX7) (N := 18) hx hb hts inA7 hown hK hP 1 rfl rfl 4 (by decide) (hts _ w_233) (fun _ h9 => h9) rfl dX8_noTown_4 ?_
  refine lv_if_ne (tgt := 14) hx hb dX8_noTown_7 (by decide) (fun c_1 => absurd (by decide) c_1) (fun c_1 => ?_)
  refine lv_iconst (v := 1) hx hb dX8_noTown_10 (by decide) ?_
  refine lv_goto (tgt := 15) hx hb dX8_noTown_11 (by decide) ?_
  have hP9 := hP.sub (ws' := [(h0, .inr (8, [.ref x_tape, .ref x_reader, .ref x_current, .ref x_images, .ref x_kept, .ref x_slots, .ref x_diary, .ref x_base, .ref x_trial, .ref x_plan, .ref x_orders, .ref x_unanswered, .int 0, .int 0, .int (-1)])), (x_current, .inr (7, [.int 0, .int 0, .int 0, .int 0, .int 0, .int 0, .int 0, .int 0, .ref t0, .ref t1, .ref t2, .ref t3, .ref t4, .ref t5, .ref t6, .ref t7, .ref t8, .ref t9]))]) [0, 1] rfl
  have hD9 := hD.sub (ws' := [(h0, .inr (8, [.ref x_tape, .ref x_reader, .ref x_current, .ref x_images, .ref x_kept, .ref x_slots, .ref x_diary, .ref x_base, .ref x_trial, .ref x_plan, .ref x_orders, .ref x_unanswered, .int 0, .int 0, .int (-1)])), (x_current, .inr (7, [.int 0, .int 0, .int 0, .int 0, .int 0, .int 0, .int 0, .int 0, .ref t0, .ref t1, .ref t2, .ref t3, .ref t4, .ref t5, .ref t6, .ref t7, .ref t8, .ref t9]))]) [0, 1] (by decide) rfl
  have hK9 := hK.sub (tys' := []) [] rfl
  exact W.zret (v := 1) hx hb hr (by decide) (fun t ht hW => ⟨⟨1, (), rfl, rfl, by rw [ht]; exact hP9, va_K.moved hW.alike hK9, hD9⟩, hS.F ht⟩) hS.2.2 dX8_noTown_15
set_option maxHeartbeats 4000000 in
set_option maxRecDepth 100000 in
theorem c_isSlot0 (l : Launch) (dC : Nat → ClassId) (dI : Nat → Nat → Nat) (sz : Nat) (h0 : Nat) (x_tape : Nat) (x_reader : Nat) (x_current : Nat) (x_images : Nat) (x_kept : Nat) (x_slots : Nat) (x_diary : Nat) (x_base : Nat) (x_trial : Nat) (x_plan : Nat) (x_orders : Nat) (x_unanswered : Nat)  : Met l yX8_isSlot (.code yX8_isSlot cX8_isSlot 2 (some .boolean) :: ALLW) ({ frames := 0, cells := 0, slots := 0, locals := 0 }) (va_Pc [.ref h0, .int 0] (fun U => U.heap.size = sz ∧ va_P (dC, dI) vwCl [(h0, .inr (8, [.ref x_tape, .ref x_reader, .ref x_current, .ref x_images, .ref x_kept, .ref x_slots, .ref x_diary, .ref x_base, .ref x_trial, .ref x_plan, .ref x_orders, .ref x_unanswered, .int 0, .int 0, .int (-1)]))] U.heap ∧ va_K (dC, dI) vwCl [] U ∧ va_D (fun _ => True) [(h0, .inr (8, [.ref x_tape, .ref x_reader, .ref x_current, .ref x_images, .ref x_kept, .ref x_slots, .ref x_diary, .ref x_base, .ref x_trial, .ref x_plan, .ref x_orders, .ref x_unanswered, .int 0, .int 0, .int (-1)]))])) (va_Qi (fun (r : Int32) (_ : Unit) => r = 1) (fun (_ : Unit) (t : State) => va_P (dC, dI) vwCl [(h0, .inr (8, [.ref x_tape, .ref x_reader, .ref x_current, .ref x_images, .ref x_kept, .ref x_slots, .ref x_diary, .ref x_base, .ref x_trial, .ref x_plan, .ref x_orders, .ref x_unanswered, .int 0, .int 0, .int (-1)]))] t.heap ∧ va_K (dC, dI) vwCl [] t ∧ va_D (va_A [(h0, .inr (8, [.ref x_tape, .ref x_reader, .ref x_current, .ref x_images, .ref x_kept, .ref x_slots, .ref x_diary, .ref x_base, .ref x_trial, .ref x_plan, .ref x_orders, .ref x_unanswered, .int 0, .int 0, .int (-1)]))] sz) [(h0, .inr (8, [.ref x_tape, .ref x_reader, .ref x_current, .ref x_images, .ref x_kept, .ref x_slots, .ref x_diary, .ref x_base, .ref x_trial, .ref x_plan, .ref x_orders, .ref x_unanswered, .int 0, .int 0, .int (-1)]))]) (va_A [(h0, .inr (8, [.ref x_tape, .ref x_reader, .ref x_current, .ref x_images, .ref x_kept, .ref x_slots, .ref x_diary, .ref x_base, .ref x_trial, .ref x_plan, .ref x_orders, .ref x_unanswered, .int 0, .int 0, .int (-1)]))] sz)) 0 0 (va_A [(h0, .inr (8, [.ref x_tape, .ref x_reader, .ref x_current, .ref x_images, .ref x_kept, .ref x_slots, .ref x_diary, .ref x_base, .ref x_trial, .ref x_plan, .ref x_orders, .ref x_unanswered, .int 0, .int 0, .int (-1)]))] sz) := by
  refine Met.ofW (cc := cX8_isSlot) (maxL := 2) (ret := (some .boolean)) (by decide) rfl ?_
  intro p e s m args below meth c s₁ B hml hv
  obtain ⟨rfl, hsz, hP, hK, hD0⟩ := hv
  have hx := B.exec
  have hb := B.bytes
  have hr := B.returns
  have hts0 := atoms_spec (ws := (.code yX8_isSlot cX8_isSlot 2 (some .boolean) :: ALLW)) B.pre
  have hts := fun (w : Cond) (h : w ∈ ALLW) => hts0 w (List.mem_cons_of_mem _ h)
  have hown : s.vm.findClass RX8 = some m.cls := findClass_of_methodNamed B.named
  have hlocks := B.notSynchronized
  subst hsz
  have hD := hD0.self (sz := s.heap.size)
  generalize hAe : va_A [(h0, .inr (8, [.ref x_tape, .ref x_reader, .ref x_current, .ref x_images, .ref x_kept, .ref x_slots, .ref x_diary, .ref x_base, .ref x_trial, .ref x_plan, .ref x_orders, .ref x_unanswered, .int 0, .int 0, .int (-1)]))] s.heap.size = A at hD ⊢
  have hA : ∀ q : Nat, s.heap.size ≤ q → A q := fun q h => by rw [← hAe]; exact Or.inr h
  have hS : va_S A s.heap s.heap [] := va_S.rf
  have hP : va_P (dC, dI) vwCl [(h0, .inr (8, [.ref x_tape, .ref x_reader, .ref x_current, .ref x_images, .ref x_kept, .ref x_slots, .ref x_diary, .ref x_base, .ref x_trial, .ref x_plan, .ref x_orders, .ref x_unanswered, .int 0, .int 0, .int (-1)]))] s.heap := hP
  have hl := lv_entry ([.ref h0, .int 0]) (n := 2) (Nat.le_of_ble_eq_true rfl)
  rw [lg_entry_eq]
  generalize (lg_sl ([.ref h0, .int 0]) ++ List.replicate (2 - (lg_sl ([.ref h0, .int 0])).length) Slot.unset).toArray = ls at hl ⊢
  have hl : lv_has ls 2 [(0, .ref h0), (1, .int 0)] := hl
  refine lv_iload_n hx hb dX8_isSlot_0 rfl (lv_at hl 1 rfl) ?_
  refine lv_if_lt (tgt := 13) hx hb dX8_isSlot_1 (by decide) (fun c_1 => absurd c_1 (by decide)) (fun c_1 => ?_)
  refine lv_iload_n hx hb dX8_isSlot_4 rfl (lv_at hl 1 rfl) ?_
  refine lv_iconst (v := 4) hx hb dX8_isSlot_5 (by decide) ?_
  refine lv_icmp_ge (tgt := 13) hx hb dX8_isSlot_6 (by decide) (fun c_2 => absurd c_2 (by decide)) (fun c_2 => ?_)
  refine lv_iconst (v := 1) hx hb dX8_isSlot_9 (by decide) ?_
  refine lv_goto (tgt := 14) hx hb dX8_isSlot_10 (by decide) ?_
  have hP9 := hP.sub (ws' := [(h0, .inr (8, [.ref x_tape, .ref x_reader, .ref x_current, .ref x_images, .ref x_kept, .ref x_slots, .ref x_diary, .ref x_base, .ref x_trial, .ref x_plan, .ref x_orders, .ref x_unanswered, .int 0, .int 0, .int (-1)]))]) [0] rfl
  have hD9 := hD.sub (ws' := [(h0, .inr (8, [.ref x_tape, .ref x_reader, .ref x_current, .ref x_images, .ref x_kept, .ref x_slots, .ref x_diary, .ref x_base, .ref x_trial, .ref x_plan, .ref x_orders, .ref x_unanswered, .int 0, .int 0, .int (-1)]))]) [0] (by decide) rfl
  have hK9 := hK.sub (tys' := []) [] rfl
  exact W.zret (v := 1) hx hb hr (by decide) (fun t ht hW => ⟨⟨1, (), rfl, rfl, by rw [ht]; exact hP9, va_K.moved hW.alike hK9, hD9⟩, hS.F ht⟩) hS.2.2 dX8_isSlot_14
set_option maxHeartbeats 4000000 in
set_option maxRecDepth 100000 in
theorem c_isSlot1 (l : Launch) (dC : Nat → ClassId) (dI : Nat → Nat → Nat) (sz : Nat) (h0 : Nat) (x_tape : Nat) (x_reader : Nat) (x_current : Nat) (x_images : Nat) (x_kept : Nat) (x_slots : Nat) (x_diary : Nat) (x_base : Nat) (x_trial : Nat) (x_plan : Nat) (x_orders : Nat) (x_unanswered : Nat)  : Met l yX8_isSlot (.code yX8_isSlot cX8_isSlot 2 (some .boolean) :: ALLW) ({ frames := 0, cells := 0, slots := 0, locals := 0 }) (va_Pc [.ref h0, .int 1] (fun U => U.heap.size = sz ∧ va_P (dC, dI) vwCl [(h0, .inr (8, [.ref x_tape, .ref x_reader, .ref x_current, .ref x_images, .ref x_kept, .ref x_slots, .ref x_diary, .ref x_base, .ref x_trial, .ref x_plan, .ref x_orders, .ref x_unanswered, .int 0, .int 0, .int (-1)]))] U.heap ∧ va_K (dC, dI) vwCl [] U ∧ va_D (fun _ => True) [(h0, .inr (8, [.ref x_tape, .ref x_reader, .ref x_current, .ref x_images, .ref x_kept, .ref x_slots, .ref x_diary, .ref x_base, .ref x_trial, .ref x_plan, .ref x_orders, .ref x_unanswered, .int 0, .int 0, .int (-1)]))])) (va_Qi (fun (r : Int32) (_ : Unit) => r = 1) (fun (_ : Unit) (t : State) => va_P (dC, dI) vwCl [(h0, .inr (8, [.ref x_tape, .ref x_reader, .ref x_current, .ref x_images, .ref x_kept, .ref x_slots, .ref x_diary, .ref x_base, .ref x_trial, .ref x_plan, .ref x_orders, .ref x_unanswered, .int 0, .int 0, .int (-1)]))] t.heap ∧ va_K (dC, dI) vwCl [] t ∧ va_D (va_A [(h0, .inr (8, [.ref x_tape, .ref x_reader, .ref x_current, .ref x_images, .ref x_kept, .ref x_slots, .ref x_diary, .ref x_base, .ref x_trial, .ref x_plan, .ref x_orders, .ref x_unanswered, .int 0, .int 0, .int (-1)]))] sz) [(h0, .inr (8, [.ref x_tape, .ref x_reader, .ref x_current, .ref x_images, .ref x_kept, .ref x_slots, .ref x_diary, .ref x_base, .ref x_trial, .ref x_plan, .ref x_orders, .ref x_unanswered, .int 0, .int 0, .int (-1)]))]) (va_A [(h0, .inr (8, [.ref x_tape, .ref x_reader, .ref x_current, .ref x_images, .ref x_kept, .ref x_slots, .ref x_diary, .ref x_base, .ref x_trial, .ref x_plan, .ref x_orders, .ref x_unanswered, .int 0, .int 0, .int (-1)]))] sz)) 0 0 (va_A [(h0, .inr (8, [.ref x_tape, .ref x_reader, .ref x_current, .ref x_images, .ref x_kept, .ref x_slots, .ref x_diary, .ref x_base, .ref x_trial, .ref x_plan, .ref x_orders, .ref x_unanswered, .int 0, .int 0, .int (-1)]))] sz) := by
  refine Met.ofW (cc := cX8_isSlot) (maxL := 2) (ret := (some .boolean)) (by decide) rfl ?_
  intro p e s m args below meth c s₁ B hml hv
  obtain ⟨rfl, hsz, hP, hK, hD0⟩ := hv
  have hx := B.exec
  have hb := B.bytes
  have hr := B.returns
  have hts0 := atoms_spec (ws := (.code yX8_isSlot cX8_isSlot 2 (some .boolean) :: ALLW)) B.pre
  have hts := fun (w : Cond) (h : w ∈ ALLW) => hts0 w (List.mem_cons_of_mem _ h)
  have hown : s.vm.findClass RX8 = some m.cls := findClass_of_methodNamed B.named
  have hlocks := B.notSynchronized
  subst hsz
  have hD := hD0.self (sz := s.heap.size)
  generalize hAe : va_A [(h0, .inr (8, [.ref x_tape, .ref x_reader, .ref x_current, .ref x_images, .ref x_kept, .ref x_slots, .ref x_diary, .ref x_base, .ref x_trial, .ref x_plan, .ref x_orders, .ref x_unanswered, .int 0, .int 0, .int (-1)]))] s.heap.size = A at hD ⊢
  have hA : ∀ q : Nat, s.heap.size ≤ q → A q := fun q h => by rw [← hAe]; exact Or.inr h
  have hS : va_S A s.heap s.heap [] := va_S.rf
  have hP : va_P (dC, dI) vwCl [(h0, .inr (8, [.ref x_tape, .ref x_reader, .ref x_current, .ref x_images, .ref x_kept, .ref x_slots, .ref x_diary, .ref x_base, .ref x_trial, .ref x_plan, .ref x_orders, .ref x_unanswered, .int 0, .int 0, .int (-1)]))] s.heap := hP
  have hl := lv_entry ([.ref h0, .int 1]) (n := 2) (Nat.le_of_ble_eq_true rfl)
  rw [lg_entry_eq]
  generalize (lg_sl ([.ref h0, .int 1]) ++ List.replicate (2 - (lg_sl ([.ref h0, .int 1])).length) Slot.unset).toArray = ls at hl ⊢
  have hl : lv_has ls 2 [(0, .ref h0), (1, .int 1)] := hl
  refine lv_iload_n hx hb dX8_isSlot_0 rfl (lv_at hl 1 rfl) ?_
  refine lv_if_lt (tgt := 13) hx hb dX8_isSlot_1 (by decide) (fun c_1 => absurd c_1 (by decide)) (fun c_1 => ?_)
  refine lv_iload_n hx hb dX8_isSlot_4 rfl (lv_at hl 1 rfl) ?_
  refine lv_iconst (v := 4) hx hb dX8_isSlot_5 (by decide) ?_
  refine lv_icmp_ge (tgt := 13) hx hb dX8_isSlot_6 (by decide) (fun c_2 => absurd c_2 (by decide)) (fun c_2 => ?_)
  refine lv_iconst (v := 1) hx hb dX8_isSlot_9 (by decide) ?_
  refine lv_goto (tgt := 14) hx hb dX8_isSlot_10 (by decide) ?_
  have hP9 := hP.sub (ws' := [(h0, .inr (8, [.ref x_tape, .ref x_reader, .ref x_current, .ref x_images, .ref x_kept, .ref x_slots, .ref x_diary, .ref x_base, .ref x_trial, .ref x_plan, .ref x_orders, .ref x_unanswered, .int 0, .int 0, .int (-1)]))]) [0] rfl
  have hD9 := hD.sub (ws' := [(h0, .inr (8, [.ref x_tape, .ref x_reader, .ref x_current, .ref x_images, .ref x_kept, .ref x_slots, .ref x_diary, .ref x_base, .ref x_trial, .ref x_plan, .ref x_orders, .ref x_unanswered, .int 0, .int 0, .int (-1)]))]) [0] (by decide) rfl
  have hK9 := hK.sub (tys' := []) [] rfl
  exact W.zret (v := 1) hx hb hr (by decide) (fun t ht hW => ⟨⟨1, (), rfl, rfl, by rw [ht]; exact hP9, va_K.moved hW.alike hK9, hD9⟩, hS.F ht⟩) hS.2.2 dX8_isSlot_14
set_option maxHeartbeats 4000000 in
set_option maxRecDepth 100000 in
theorem c_isSlot2 (l : Launch) (dC : Nat → ClassId) (dI : Nat → Nat → Nat) (sz : Nat) (h0 : Nat) (x_tape : Nat) (x_reader : Nat) (x_current : Nat) (x_images : Nat) (x_kept : Nat) (x_slots : Nat) (x_diary : Nat) (x_base : Nat) (x_trial : Nat) (x_plan : Nat) (x_orders : Nat) (x_unanswered : Nat)  : Met l yX8_isSlot (.code yX8_isSlot cX8_isSlot 2 (some .boolean) :: ALLW) ({ frames := 0, cells := 0, slots := 0, locals := 0 }) (va_Pc [.ref h0, .int 2] (fun U => U.heap.size = sz ∧ va_P (dC, dI) vwCl [(h0, .inr (8, [.ref x_tape, .ref x_reader, .ref x_current, .ref x_images, .ref x_kept, .ref x_slots, .ref x_diary, .ref x_base, .ref x_trial, .ref x_plan, .ref x_orders, .ref x_unanswered, .int 0, .int 0, .int (-1)]))] U.heap ∧ va_K (dC, dI) vwCl [] U ∧ va_D (fun _ => True) [(h0, .inr (8, [.ref x_tape, .ref x_reader, .ref x_current, .ref x_images, .ref x_kept, .ref x_slots, .ref x_diary, .ref x_base, .ref x_trial, .ref x_plan, .ref x_orders, .ref x_unanswered, .int 0, .int 0, .int (-1)]))])) (va_Qi (fun (r : Int32) (_ : Unit) => r = 1) (fun (_ : Unit) (t : State) => va_P (dC, dI) vwCl [(h0, .inr (8, [.ref x_tape, .ref x_reader, .ref x_current, .ref x_images, .ref x_kept, .ref x_slots, .ref x_diary, .ref x_base, .ref x_trial, .ref x_plan, .ref x_orders, .ref x_unanswered, .int 0, .int 0, .int (-1)]))] t.heap ∧ va_K (dC, dI) vwCl [] t ∧ va_D (va_A [(h0, .inr (8, [.ref x_tape, .ref x_reader, .ref x_current, .ref x_images, .ref x_kept, .ref x_slots, .ref x_diary, .ref x_base, .ref x_trial, .ref x_plan, .ref x_orders, .ref x_unanswered, .int 0, .int 0, .int (-1)]))] sz) [(h0, .inr (8, [.ref x_tape, .ref x_reader, .ref x_current, .ref x_images, .ref x_kept, .ref x_slots, .ref x_diary, .ref x_base, .ref x_trial, .ref x_plan, .ref x_orders, .ref x_unanswered, .int 0, .int 0, .int (-1)]))]) (va_A [(h0, .inr (8, [.ref x_tape, .ref x_reader, .ref x_current, .ref x_images, .ref x_kept, .ref x_slots, .ref x_diary, .ref x_base, .ref x_trial, .ref x_plan, .ref x_orders, .ref x_unanswered, .int 0, .int 0, .int (-1)]))] sz)) 0 0 (va_A [(h0, .inr (8, [.ref x_tape, .ref x_reader, .ref x_current, .ref x_images, .ref x_kept, .ref x_slots, .ref x_diary, .ref x_base, .ref x_trial, .ref x_plan, .ref x_orders, .ref x_unanswered, .int 0, .int 0, .int (-1)]))] sz) := by
  refine Met.ofW (cc := cX8_isSlot) (maxL := 2) (ret := (some .boolean)) (by decide) rfl ?_
  intro p e s m args below meth c s₁ B hml hv
  obtain ⟨rfl, hsz, hP, hK, hD0⟩ := hv
  have hx := B.exec
  have hb := B.bytes
  have hr := B.returns
  have hts0 := atoms_spec (ws := (.code yX8_isSlot cX8_isSlot 2 (some .boolean) :: ALLW)) B.pre
  have hts := fun (w : Cond) (h : w ∈ ALLW) => hts0 w (List.mem_cons_of_mem _ h)
  have hown : s.vm.findClass RX8 = some m.cls := findClass_of_methodNamed B.named
  have hlocks := B.notSynchronized
  subst hsz
  have hD := hD0.self (sz := s.heap.size)
  generalize hAe : va_A [(h0, .inr (8, [.ref x_tape, .ref x_reader, .ref x_current, .ref x_images, .ref x_kept, .ref x_slots, .ref x_diary, .ref x_base, .ref x_trial, .ref x_plan, .ref x_orders, .ref x_unanswered, .int 0, .int 0, .int (-1)]))] s.heap.size = A at hD ⊢
  have hA : ∀ q : Nat, s.heap.size ≤ q → A q := fun q h => by rw [← hAe]; exact Or.inr h
  have hS : va_S A s.heap s.heap [] := va_S.rf
  have hP : va_P (dC, dI) vwCl [(h0, .inr (8, [.ref x_tape, .ref x_reader, .ref x_current, .ref x_images, .ref x_kept, .ref x_slots, .ref x_diary, .ref x_base, .ref x_trial, .ref x_plan, .ref x_orders, .ref x_unanswered, .int 0, .int 0, .int (-1)]))] s.heap := hP
  have hl := lv_entry ([.ref h0, .int 2]) (n := 2) (Nat.le_of_ble_eq_true rfl)
  rw [lg_entry_eq]
  generalize (lg_sl ([.ref h0, .int 2]) ++ List.replicate (2 - (lg_sl ([.ref h0, .int 2])).length) Slot.unset).toArray = ls at hl ⊢
  have hl : lv_has ls 2 [(0, .ref h0), (1, .int 2)] := hl
  refine lv_iload_n hx hb dX8_isSlot_0 rfl (lv_at hl 1 rfl) ?_
  refine lv_if_lt (tgt := 13) hx hb dX8_isSlot_1 (by decide) (fun c_1 => absurd c_1 (by decide)) (fun c_1 => ?_)
  refine lv_iload_n hx hb dX8_isSlot_4 rfl (lv_at hl 1 rfl) ?_
  refine lv_iconst (v := 4) hx hb dX8_isSlot_5 (by decide) ?_
  refine lv_icmp_ge (tgt := 13) hx hb dX8_isSlot_6 (by decide) (fun c_2 => absurd c_2 (by decide)) (fun c_2 => ?_)
  refine lv_iconst (v := 1) hx hb dX8_isSlot_9 (by decide) ?_
  refine lv_goto (tgt := 14) hx hb dX8_isSlot_10 (by decide) ?_
  have hP9 := hP.sub (ws' := [(h0, .inr (8, [.ref x_tape, .ref x_reader, .ref x_current, .ref x_images, .ref x_kept, .ref x_slots, .ref x_diary, .ref x_base, .ref x_trial, .ref x_plan, .ref x_orders, .ref x_unanswered, .int 0, .int 0, .int (-1)]))]) [0] rfl
  have hD9 := hD.sub (ws' := [(h0, .inr (8, [.ref x_tape, .ref x_reader, .ref x_current, .ref x_images, .ref x_kept, .ref x_slots, .ref x_diary, .ref x_base, .ref x_trial, .ref x_plan, .ref x_orders, .ref x_unanswered, .int 0, .int 0, .int (-1)]))]) [0] (by decide) rfl
  have hK9 := hK.sub (tys' := []) [] rfl
  exact W.zret (v := 1) hx hb hr (by decide) (fun t ht hW => ⟨⟨1, (), rfl, rfl, by rw [ht]; exact hP9, va_K.moved hW.alike hK9, hD9⟩, hS.F ht⟩) hS.2.2 dX8_isSlot_14
set_option maxHeartbeats 4000000 in
set_option maxRecDepth 100000 in
theorem c_isSlot3 (l : Launch) (dC : Nat → ClassId) (dI : Nat → Nat → Nat) (sz : Nat) (h0 : Nat) (x_tape : Nat) (x_reader : Nat) (x_current : Nat) (x_images : Nat) (x_kept : Nat) (x_slots : Nat) (x_diary : Nat) (x_base : Nat) (x_trial : Nat) (x_plan : Nat) (x_orders : Nat) (x_unanswered : Nat)  : Met l yX8_isSlot (.code yX8_isSlot cX8_isSlot 2 (some .boolean) :: ALLW) ({ frames := 0, cells := 0, slots := 0, locals := 0 }) (va_Pc [.ref h0, .int 3] (fun U => U.heap.size = sz ∧ va_P (dC, dI) vwCl [(h0, .inr (8, [.ref x_tape, .ref x_reader, .ref x_current, .ref x_images, .ref x_kept, .ref x_slots, .ref x_diary, .ref x_base, .ref x_trial, .ref x_plan, .ref x_orders, .ref x_unanswered, .int 0, .int 0, .int (-1)]))] U.heap ∧ va_K (dC, dI) vwCl [] U ∧ va_D (fun _ => True) [(h0, .inr (8, [.ref x_tape, .ref x_reader, .ref x_current, .ref x_images, .ref x_kept, .ref x_slots, .ref x_diary, .ref x_base, .ref x_trial, .ref x_plan, .ref x_orders, .ref x_unanswered, .int 0, .int 0, .int (-1)]))])) (va_Qi (fun (r : Int32) (_ : Unit) => r = 1) (fun (_ : Unit) (t : State) => va_P (dC, dI) vwCl [(h0, .inr (8, [.ref x_tape, .ref x_reader, .ref x_current, .ref x_images, .ref x_kept, .ref x_slots, .ref x_diary, .ref x_base, .ref x_trial, .ref x_plan, .ref x_orders, .ref x_unanswered, .int 0, .int 0, .int (-1)]))] t.heap ∧ va_K (dC, dI) vwCl [] t ∧ va_D (va_A [(h0, .inr (8, [.ref x_tape, .ref x_reader, .ref x_current, .ref x_images, .ref x_kept, .ref x_slots, .ref x_diary, .ref x_base, .ref x_trial, .ref x_plan, .ref x_orders, .ref x_unanswered, .int 0, .int 0, .int (-1)]))] sz) [(h0, .inr (8, [.ref x_tape, .ref x_reader, .ref x_current, .ref x_images, .ref x_kept, .ref x_slots, .ref x_diary, .ref x_base, .ref x_trial, .ref x_plan, .ref x_orders, .ref x_unanswered, .int 0, .int 0, .int (-1)]))]) (va_A [(h0, .inr (8, [.ref x_tape, .ref x_reader, .ref x_current, .ref x_images, .ref x_kept, .ref x_slots, .ref x_diary, .ref x_base, .ref x_trial, .ref x_plan, .ref x_orders, .ref x_unanswered, .int 0, .int 0, .int (-1)]))] sz)) 0 0 (va_A [(h0, .inr (8, [.ref x_tape, .ref x_reader, .ref x_current, .ref x_images, .ref x_kept, .ref x_slots, .ref x_diary, .ref x_base, .ref x_trial, .ref x_plan, .ref x_orders, .ref x_unanswered, .int 0, .int 0, .int (-1)]))] sz) := by
  refine Met.ofW (cc := cX8_isSlot) (maxL := 2) (ret := (some .boolean)) (by decide) rfl ?_
  intro p e s m args below meth c s₁ B hml hv
  obtain ⟨rfl, hsz, hP, hK, hD0⟩ := hv
  have hx := B.exec
  have hb := B.bytes
  have hr := B.returns
  have hts0 := atoms_spec (ws := (.code yX8_isSlot cX8_isSlot 2 (some .boolean) :: ALLW)) B.pre
  have hts := fun (w : Cond) (h : w ∈ ALLW) => hts0 w (List.mem_cons_of_mem _ h)
  have hown : s.vm.findClass RX8 = some m.cls := findClass_of_methodNamed B.named
  have hlocks := B.notSynchronized
  subst hsz
  have hD := hD0.self (sz := s.heap.size)
  generalize hAe : va_A [(h0, .inr (8, [.ref x_tape, .ref x_reader, .ref x_current, .ref x_images, .ref x_kept, .ref x_slots, .ref x_diary, .ref x_base, .ref x_trial, .ref x_plan, .ref x_orders, .ref x_unanswered, .int 0, .int 0, .int (-1)]))] s.heap.size = A at hD ⊢
  have hA : ∀ q : Nat, s.heap.size ≤ q → A q := fun q h => by rw [← hAe]; exact Or.inr h
  have hS : va_S A s.heap s.heap [] := va_S.rf
  have hP : va_P (dC, dI) vwCl [(h0, .inr (8, [.ref x_tape, .ref x_reader, .ref x_current, .ref x_images, .ref x_kept, .ref x_slots, .ref x_diary, .ref x_base, .ref x_trial, .ref x_plan, .ref x_orders, .ref x_unanswered, .int 0, .int 0, .int (-1)]))] s.heap := hP
  have hl := lv_entry ([.ref h0, .int 3]) (n := 2) (Nat.le_of_ble_eq_true rfl)
  rw [lg_entry_eq]
  generalize (lg_sl ([.ref h0, .int 3]) ++ List.replicate (2 - (lg_sl ([.ref h0, .int 3])).length) Slot.unset).toArray = ls at hl ⊢
  have hl : lv_has ls 2 [(0, .ref h0), (1, .int 3)] := hl
  refine lv_iload_n hx hb dX8_isSlot_0 rfl (lv_at hl 1 rfl) ?_
  refine lv_if_lt (tgt := 13) hx hb dX8_isSlot_1 (by decide) (fun c_1 => absurd c_1 (by decide)) (fun c_1 => ?_)
  refine lv_iload_n hx hb dX8_isSlot_4 rfl (lv_at hl 1 rfl) ?_
  refine lv_iconst (v := 4) hx hb dX8_isSlot_5 (by decide) ?_
  refine lv_icmp_ge (tgt := 13) hx hb dX8_isSlot_6 (by decide) (fun c_2 => absurd c_2 (by decide)) (fun c_2 => ?_)
  refine lv_iconst (v := 1) hx hb dX8_isSlot_9 (by decide) ?_
  refine lv_goto (tgt := 14) hx hb dX8_isSlot_10 (by decide) ?_
  have hP9 := hP.sub (ws' := [(h0, .inr (8, [.ref x_tape, .ref x_reader, .ref x_current, .ref x_images, .ref x_kept, .ref x_slots, .ref x_diary, .ref x_base, .ref x_trial, .ref x_plan, .ref x_orders, .ref x_unanswered, .int 0, .int 0, .int (-1)]))]) [0] rfl
  have hD9 := hD.sub (ws' := [(h0, .inr (8, [.ref x_tape, .ref x_reader, .ref x_current, .ref x_images, .ref x_kept, .ref x_slots, .ref x_diary, .ref x_base, .ref x_trial, .ref x_plan, .ref x_orders, .ref x_unanswered, .int 0, .int 0, .int (-1)]))]) [0] (by decide) rfl
  have hK9 := hK.sub (tys' := []) [] rfl
  exact W.zret (v := 1) hx hb hr (by decide) (fun t ht hW => ⟨⟨1, (), rfl, rfl, by rw [ht]; exact hP9, va_K.moved hW.alike hK9, hD9⟩, hS.F ht⟩) hS.2.2 dX8_isSlot_14
set_option maxHeartbeats 4000000 in
set_option maxRecDepth 100000 in
theorem c_isSlotO (l : Launch) (dC : Nat → ClassId) (dI : Nat → Nat → Nat) (sz : Nat) (h0 : Nat) (x_tape : Nat) (x_reader : Nat) (x_current : Nat) (x_images : Nat) (x_kept : Nat) (x_slots : Nat) (x_diary : Nat) (x_base : Nat) (x_trial : Nat) (x_plan : Nat) (x_orders : Nat) (x_unanswered : Nat) (a : Int32) (ha : a.toInt < 0 ∨ 4 ≤ a.toInt) : Met l yX8_isSlot (.code yX8_isSlot cX8_isSlot 2 (some .boolean) :: ALLW) ({ frames := 0, cells := 0, slots := 0, locals := 0 }) (va_Pc [.ref h0, .int a] (fun U => U.heap.size = sz ∧ va_P (dC, dI) vwCl [(h0, .inr (8, [.ref x_tape, .ref x_reader, .ref x_current, .ref x_images, .ref x_kept, .ref x_slots, .ref x_diary, .ref x_base, .ref x_trial, .ref x_plan, .ref x_orders, .ref x_unanswered, .int 0, .int 0, .int (-1)]))] U.heap ∧ va_K (dC, dI) vwCl [] U ∧ va_D (fun _ => True) [(h0, .inr (8, [.ref x_tape, .ref x_reader, .ref x_current, .ref x_images, .ref x_kept, .ref x_slots, .ref x_diary, .ref x_base, .ref x_trial, .ref x_plan, .ref x_orders, .ref x_unanswered, .int 0, .int 0, .int (-1)]))])) (va_Qi (fun (r : Int32) (_ : Unit) => r = 0) (fun (_ : Unit) (t : State) => va_P (dC, dI) vwCl [(h0, .inr (8, [.ref x_tape, .ref x_reader, .ref x_current, .ref x_images, .ref x_kept, .ref x_slots, .ref x_diary, .ref x_base, .ref x_trial, .ref x_plan, .ref x_orders, .ref x_unanswered, .int 0, .int 0, .int (-1)]))] t.heap ∧ va_K (dC, dI) vwCl [] t ∧ va_D (va_A [(h0, .inr (8, [.ref x_tape, .ref x_reader, .ref x_current, .ref x_images, .ref x_kept, .ref x_slots, .ref x_diary, .ref x_base, .ref x_trial, .ref x_plan, .ref x_orders, .ref x_unanswered, .int 0, .int 0, .int (-1)]))] sz) [(h0, .inr (8, [.ref x_tape, .ref x_reader, .ref x_current, .ref x_images, .ref x_kept, .ref x_slots, .ref x_diary, .ref x_base, .ref x_trial, .ref x_plan, .ref x_orders, .ref x_unanswered, .int 0, .int 0, .int (-1)]))]) (va_A [(h0, .inr (8, [.ref x_tape, .ref x_reader, .ref x_current, .ref x_images, .ref x_kept, .ref x_slots, .ref x_diary, .ref x_base, .ref x_trial, .ref x_plan, .ref x_orders, .ref x_unanswered, .int 0, .int 0, .int (-1)]))] sz)) 0 0 (va_A [(h0, .inr (8, [.ref x_tape, .ref x_reader, .ref x_current, .ref x_images, .ref x_kept, .ref x_slots, .ref x_diary, .ref x_base, .ref x_trial, .ref x_plan, .ref x_orders, .ref x_unanswered, .int 0, .int 0, .int (-1)]))] sz) := by
  refine Met.ofW (cc := cX8_isSlot) (maxL := 2) (ret := (some .boolean)) (by decide) rfl ?_
  intro p e s m args below meth c s₁ B hml hv
  obtain ⟨rfl, hsz, hP, hK, hD0⟩ := hv
  have hx := B.exec
  have hb := B.bytes
  have hr := B.returns
  have hts0 := atoms_spec (ws := (.code yX8_isSlot cX8_isSlot 2 (some .boolean) :: ALLW)) B.pre
  have hts := fun (w : Cond) (h : w ∈ ALLW) => hts0 w (List.mem_cons_of_mem _ h)
  have hown : s.vm.findClass RX8 = some m.cls := findClass_of_methodNamed B.named
  have hlocks := B.notSynchronized
  subst hsz
  have hD := hD0.self (sz := s.heap.size)
  generalize hAe : va_A [(h0, .inr (8, [.ref x_tape, .ref x_reader, .ref x_current, .ref x_images, .ref x_kept, .ref x_slots, .ref x_diary, .ref x_base, .ref x_trial, .ref x_plan, .ref x_orders, .ref x_unanswered, .int 0, .int 0, .int (-1)]))] s.heap.size = A at hD ⊢
  have hA : ∀ q : Nat, s.heap.size ≤ q → A q := fun q h => by rw [← hAe]; exact Or.inr h
  have hS : va_S A s.heap s.heap [] := va_S.rf
  have hP : va_P (dC, dI) vwCl [(h0, .inr (8, [.ref x_tape, .ref x_reader, .ref x_current, .ref x_images, .ref x_kept, .ref x_slots, .ref x_diary, .ref x_base, .ref x_trial, .ref x_plan, .ref x_orders, .ref x_unanswered, .int 0, .int 0, .int (-1)]))] s.heap := hP
  have hl := lv_entry ([.ref h0, .int a]) (n := 2) (Nat.le_of_ble_eq_true rfl)
  rw [lg_entry_eq]
  generalize (lg_sl ([.ref h0, .int a]) ++ List.replicate (2 - (lg_sl ([.ref h0, .int a])).length) Slot.unset).toArray = ls at hl ⊢
  have hl : lv_has ls 2 [(0, .ref h0), (1, .int a)] := hl
  refine lv_iload_n hx hb dX8_isSlot_0 rfl (lv_at hl 1 rfl) ?_
  refine lv_if_lt (tgt := 13) hx hb dX8_isSlot_1 (by decide) (fun c_1 => ?_) (fun c_1 => ?_)
  · have ec_1 := q_lt (a := a.toInt) (b := 0) rfl (by decide) c_1
    refine lv_iconst (v := 0) hx hb dX8_isSlot_13 (by decide) ?_
    have hP9 := hP.sub (ws' := [(h0, .inr (8, [.ref x_tape, .ref x_reader, .ref x_current, .ref x_images, .ref x_kept, .ref x_slots, .ref x_diary, .ref x_base, .ref x_trial, .ref x_plan, .ref x_orders, .ref x_unanswered, .int 0, .int 0, .int (-1)]))]) [0] rfl
    have hD9 := hD.sub (ws' := [(h0, .inr (8, [.ref x_tape, .ref x_reader, .ref x_current, .ref x_images, .ref x_kept, .ref x_slots, .ref x_diary, .ref x_base, .ref x_trial, .ref x_plan, .ref x_orders, .ref x_unanswered, .int 0, .int 0, .int (-1)]))]) [0] (by decide) rfl
    have hK9 := hK.sub (tys' := []) [] rfl
    exact W.zret (v := 0) hx hb hr (by decide) (fun t ht hW => ⟨⟨0, (), rfl, rfl, by rw [ht]; exact hP9, va_K.moved hW.alike hK9, hD9⟩, hS.F ht⟩) hS.2.2 dX8_isSlot_14
  · have ec_1 := q_nlt (a := a.toInt) (b := 0) rfl (by decide) c_1
    refine lv_iload_n hx hb dX8_isSlot_4 rfl (lv_at hl 1 rfl) ?_
    refine lv_iconst (v := 4) hx hb dX8_isSlot_5 (by decide) ?_
    refine lv_icmp_ge (tgt := 13) hx hb dX8_isSlot_6 (by decide) (fun c_2 => ?_) (fun c_2 => absurd (q_nge (a := a.toInt) (b := 4) rfl (by decide) c_2) (by omega))
    have ec_2 := q_ge (a := a.toInt) (b := 4) rfl (by decide) c_2
    refine lv_iconst (v := 0) hx hb dX8_isSlot_13 (by decide) ?_
    have hP9 := hP.sub (ws' := [(h0, .inr (8, [.ref x_tape, .ref x_reader, .ref x_current, .ref x_images, .ref x_kept, .ref x_slots, .ref x_diary, .ref x_base, .ref x_trial, .ref x_plan, .ref x_orders, .ref x_unanswered, .int 0, .int 0, .int (-1)]))]) [0] rfl
    have hD9 := hD.sub (ws' := [(h0, .inr (8, [.ref x_tape, .ref x_reader, .ref x_current, .ref x_images, .ref x_kept, .ref x_slots, .ref x_diary, .ref x_base, .ref x_trial, .ref x_plan, .ref x_orders, .ref x_unanswered, .int 0, .int 0, .int (-1)]))]) [0] (by decide) rfl
    have hK9 := hK.sub (tys' := []) [] rfl
    exact W.zret (v := 0) hx hb hr (by decide) (fun t ht hW => ⟨⟨0, (), rfl, rfl, by rw [ht]; exact hP9, va_K.moved hW.alike hK9, hD9⟩, hS.F ht⟩) hS.2.2 dX8_isSlot_14
set_option maxHeartbeats 4000000 in
set_option maxRecDepth 100000 in
theorem c_isLetterMore (l : Launch) (dC : Nat → ClassId) (dI : Nat → Nat → Nat) (sz : Nat) (h0 : Nat) (x_tape : Nat) (x_reader : Nat) (x_current : Nat) (x_images : Nat) (x_kept : Nat) (x_slots : Nat) (x_diary : Nat) (x_base : Nat) (x_trial : Nat) (x_plan : Nat) (x_orders : Nat) (x_unanswered : Nat) (t0 : Nat) (t1 : Nat) (t2 : Nat) (t3 : Nat) (t4 : Nat) (t5 : Nat) (t6 : Nat) (t7 : Nat) (t8 : Nat) (t9 : Nat) (a : Int32) (b : Int32) (d_ : Int32)  : Met l yX8_isLetterMore (.code yX8_isLetterMore cX8_isLetterMore 4 (some .boolean) :: ALLW) ({ frames := 1, cells := 0, slots := 0, locals := 21 }) (va_Pc [.ref h0, .int a, .int b, .int d_] (fun U => U.heap.size = sz ∧ va_P (dC, dI) vwCl [(h0, .inr (8, [.ref x_tape, .ref x_reader, .ref x_current, .ref x_images, .ref x_kept, .ref x_slots, .ref x_diary, .ref x_base, .ref x_trial, .ref x_plan, .ref x_orders, .ref x_unanswered, .int 0, .int 0, .int (-1)])), (x_current, .inr (7, [.int 0, .int 0, .int 0, .int 0, .int 0, .int 0, .int 0, .int 0, .ref t0, .ref t1, .ref t2, .ref t3, .ref t4, .ref t5, .ref t6, .ref t7, .ref t8, .ref t9]))] U.heap ∧ va_K (dC, dI) vwCl [] U ∧ va_D (fun _ => True) [(h0, .inr (8, [.ref x_tape, .ref x_reader, .ref x_current, .ref x_images, .ref x_kept, .ref x_slots, .ref x_diary, .ref x_base, .ref x_trial, .ref x_plan, .ref x_orders, .ref x_unanswered, .int 0, .int 0, .int (-1)])), (x_current, .inr (7, [.int 0, .int 0, .int 0, .int 0, .int 0, .int 0, .int 0, .int 0, .ref t0, .ref t1, .ref t2, .ref t3, .ref t4, .ref t5, .ref t6, .ref t7, .ref t8, .ref t9]))])) (va_Qi (fun (r : Int32) (_ : Unit) => r = 0) (fun (_ : Unit) (t : State) => va_P (dC, dI) vwCl [(h0, .inr (8, [.ref x_tape, .ref x_reader, .ref x_current, .ref x_images, .ref x_kept, .ref x_slots, .ref x_diary, .ref x_base, .ref x_trial, .ref x_plan, .ref x_orders, .ref x_unanswered, .int 0, .int 0, .int (-1)])), (x_current, .inr (7, [.int 0, .int 0, .int 0, .int 0, .int 0, .int 0, .int 0, .int 0, .ref t0, .ref t1, .ref t2, .ref t3, .ref t4, .ref t5, .ref t6, .ref t7, .ref t8, .ref t9]))] t.heap ∧ va_K (dC, dI) vwCl [] t ∧ va_D (va_A [(h0, .inr (8, [.ref x_tape, .ref x_reader, .ref x_current, .ref x_images, .ref x_kept, .ref x_slots, .ref x_diary, .ref x_base, .ref x_trial, .ref x_plan, .ref x_orders, .ref x_unanswered, .int 0, .int 0, .int (-1)])), (x_current, .inr (7, [.int 0, .int 0, .int 0, .int 0, .int 0, .int 0, .int 0, .int 0, .ref t0, .ref t1, .ref t2, .ref t3, .ref t4, .ref t5, .ref t6, .ref t7, .ref t8, .ref t9]))] sz) [(h0, .inr (8, [.ref x_tape, .ref x_reader, .ref x_current, .ref x_images, .ref x_kept, .ref x_slots, .ref x_diary, .ref x_base, .ref x_trial, .ref x_plan, .ref x_orders, .ref x_unanswered, .int 0, .int 0, .int (-1)])), (x_current, .inr (7, [.int 0, .int 0, .int 0, .int 0, .int 0, .int 0, .int 0, .int 0, .ref t0, .ref t1, .ref t2, .ref t3, .ref t4, .ref t5, .ref t6, .ref t7, .ref t8, .ref t9]))]) (va_A [(h0, .inr (8, [.ref x_tape, .ref x_reader, .ref x_current, .ref x_images, .ref x_kept, .ref x_slots, .ref x_diary, .ref x_base, .ref x_trial, .ref x_plan, .ref x_orders, .ref x_unanswered, .int 0, .int 0, .int (-1)])), (x_current, .inr (7, [.int 0, .int 0, .int 0, .int 0, .int 0, .int 0, .int 0, .int 0, .ref t0, .ref t1, .ref t2, .ref t3, .ref t4, .ref t5, .ref t6, .ref t7, .ref t8, .ref t9]))] sz)) 0 0 (va_A [(h0, .inr (8, [.ref x_tape, .ref x_reader, .ref x_current, .ref x_images, .ref x_kept, .ref x_slots, .ref x_diary, .ref x_base, .ref x_trial, .ref x_plan, .ref x_orders, .ref x_unanswered, .int 0, .int 0, .int (-1)])), (x_current, .inr (7, [.int 0, .int 0, .int 0, .int 0, .int 0, .int 0, .int 0, .int 0, .ref t0, .ref t1, .ref t2, .ref t3, .ref t4, .ref t5, .ref t6, .ref t7, .ref t8, .ref t9]))] sz) := by
  refine Met.ofW (cc := cX8_isLetterMore) (maxL := 4) (ret := (some .boolean)) (by decide) rfl ?_
  intro p e s m args below meth c s₁ B hml hv
  obtain ⟨rfl, hsz, hP, hK, hD0⟩ := hv
  have hx := B.exec
  have hb := B.bytes
  have hr := B.returns
  have hts0 := atoms_spec (ws := (.code yX8_isLetterMore cX8_isLetterMore 4 (some .boolean) :: ALLW)) B.pre
  have hts := fun (w : Cond) (h : w ∈ ALLW) => hts0 w (List.mem_cons_of_mem _ h)
  have hown : s.vm.findClass RX8 = some m.cls := findClass_of_methodNamed B.named
  have hlocks := B.notSynchronized
  subst hsz
  have hD := hD0.self (sz := s.heap.size)
  generalize hAe : va_A [(h0, .inr (8, [.ref x_tape, .ref x_reader, .ref x_current, .ref x_images, .ref x_kept, .ref x_slots, .ref x_diary, .ref x_base, .ref x_trial, .ref x_plan, .ref x_orders, .ref x_unanswered, .int 0, .int 0, .int (-1)])), (x_current, .inr (7, [.int 0, .int 0, .int 0, .int 0, .int 0, .int 0, .int 0, .int 0, .ref t0, .ref t1, .ref t2, .ref t3, .ref t4, .ref t5, .ref t6, .ref t7, .ref t8, .ref t9]))] s.heap.size = A at hD ⊢
  have hA : ∀ q : Nat, s.heap.size ≤ q → A q := fun q h => by rw [← hAe]; exact Or.inr h
  have hS : va_S A s.heap s.heap [] := va_S.rf
  have hP : va_P (dC, dI) vwCl [(h0, .inr (8, [.ref x_tape, .ref x_reader, .ref x_current, .ref x_images, .ref x_kept, .ref x_slots, .ref x_diary, .ref x_base, .ref x_trial, .ref x_plan, .ref x_orders, .ref x_unanswered, .int 0, .int 0, .int (-1)])), (x_current, .inr (7, [.int 0, .int 0, .int 0, .int 0, .int 0, .int 0, .int 0, .int 0, .ref t0, .ref t1, .ref t2, .ref t3, .ref t4, .ref t5, .ref t6, .ref t7, .ref t8, .ref t9]))] s.heap := hP
  have hl := lv_entry ([.ref h0, .int a, .int b, .int d_]) (n := 4) (Nat.le_of_ble_eq_true rfl)
  rw [lg_entry_eq]
  generalize (lg_sl ([.ref h0, .int a, .int b, .int d_]) ++ List.replicate (4 - (lg_sl ([.ref h0, .int a, .int b, .int d_])).length) Slot.unset).toArray = ls at hl ⊢
  have hl : lv_has ls 4 [(0, .ref h0), (1, .int a), (2, .int b), (3, .int d_)] := hl
  refine lv_aload_n hx hb dX8_isLetterMore_0 rfl (lv_at hl 0 rfl) ?_
  refine va_get (D := (dC, dI)) (ci := 8) (v := .ref x_current) (C := RX8) (T := TX8) (N := 15) hx hb hts inA8 hown hK hP 0 rfl rfl 2 (by decide) (hts _ w_24) (fun _ h9 => h9) rfl dX8_isLetterMore_1 ?_
  refine lv_iload_n hx hb dX8_isLetterMore_4 rfl (lv_at hl 1 rfl) ?_
  have hPc := hP.sub (ws' := [(x_current, .inr (7, [.int 0, .int 0, .int 0, .int 0, .int 0, .int 0, .int 0, .int 0, .ref t0, .ref t1, .ref t2, .ref t3, .ref t4, .ref t5, .ref t6, .ref t7, .ref t8, .ref t9]))]) [1] rfl
  have hDc := hD.sub (ws' := [(x_current, .inr (7, [.int 0, .int 0, .int 0, .int 0, .int 0, .int 0, .int 0, .int 0, .ref t0, .ref t1, .ref t2, .ref t3, .ref t4, .ref t5, .ref t6, .ref t7, .ref t8, .ref t9]))]) [1] (by decide) rfl
  have hKc := hK.sub (tys' := []) [] rfl
  have hFc := va_free (wc := [(x_current, .inr (7, [.int 0, .int 0, .int 0, .int 0, .int 0, .int 0, .int 0, .int 0, .ref t0, .ref t1, .ref t2, .ref t3, .ref t4, .ref t5, .ref t6, .ref t7, .ref t8, .ref t9]))]) hD hS hA [1] rfl
  refine va_calli (va_runV (As := [.int a]) (rest := []) ⟨hx, hb, hml, hown, hts⟩ (c_isPerson l dC dI s.heap.size x_current t0 t1 t2 t3 t4 t5 t6 t7 t8 t9 a ) (cwV 1 hts (goodV w_538 w_539 w_540 w_23 w_541) rfl rfl rfl hdV_X7_isPerson ⟨Nat.le_of_ble_eq_true rfl, Nat.le_of_ble_eq_true rfl⟩) ⟨fun a U g mk q => by obtain ⟨q0, q1, qP, qK, qD⟩ := q; exact ⟨q0, q1, qP, va_K.moved (u := U) (U := U.calling g mk a) (Vm.Alike.refl U.vm) qK, qD⟩, va_recv hKc hPc (ci := 7) (q0 := 0) rfl rfl, fun U hU hW => ⟨rfl, by rw [hU], by rw [hU]; exact hPc, va_K.moved hW.alike hKc, hDc.weaken (fun _ _ _ _ => trivial)⟩⟩ rfl rfl hl.1 rfl (lv_room (Nat.le_of_ble_eq_true rfl)) dX8_isLetterMore_5 ⟨Nat.le_of_ble_eq_true rfl, Nat.le_of_ble_eq_true rfl⟩) hS (fun q _ h => hFc q h) hFc (fun r_1 u t H1 locs ht hvm hw hB hz1 hk1 hS => ?_)
  obtain ⟨hP1, hK1, hD1⟩ := hB
  rw [ht] at hP1
  have hK1 := va_K.moved hvm.symm hK1
  obtain ⟨hP, hD⟩ := va_join (wr := [(h0, .inr (8, [.ref x_tape, .ref x_reader, .ref x_current, .ref x_images, .ref x_kept, .ref x_slots, .ref x_diary, .ref x_base, .ref x_trial, .ref x_plan, .ref x_orders, .ref x_unanswered, .int 0, .int 0, .int (-1)]))]) (w1 := [(x_current, .inr (7, [.int 0, .int 0, .int 0, .int 0, .int 0, .int 0, .int 0, .int 0, .ref t0, .ref t1, .ref t2, .ref t3, .ref t4, .ref t5, .ref t6, .ref t7, .ref t8, .ref t9]))]) hP hD [1] [0] rfl rfl (by decide) (by decide) hk1 hFc hP1 hD1
  clear hPc hDc hKc hFc
  generalize H1 = H at hP hS ⊢
  have hP : va_P (dC, dI) vwCl [(h0, .inr (8, [.ref x_tape, .ref x_reader, .ref x_current, .ref x_images, .ref x_kept, .ref x_slots, .ref x_diary, .ref x_base, .ref x_trial, .ref x_plan, .ref x_orders, .ref x_unanswered, .int 0, .int 0, .int (-1)])), (x_current, .inr (7, [.int 0, .int 0, .int 0, .int 0, .int 0, .int 0, .int 0, .int 0, .ref t0, .ref t1, .ref t2, .ref t3, .ref t4, .ref t5, .ref t6, .ref t7, .ref t8, .ref t9]))] H := hP
  have hD : va_D A [(h0, .inr (8, [.ref x_tape, .ref x_reader, .ref x_current, .ref x_images, .ref x_kept, .ref x_slots, .ref x_diary, .ref x_base, .ref x_trial, .ref x_plan, .ref x_orders, .ref x_unanswered, .int 0, .int 0, .int (-1)])), (x_current, .inr (7, [.int 0, .int 0, .int 0, .int 0, .int 0, .int 0, .int 0, .int 0, .ref t0, .ref t1, .ref t2, .ref t3, .ref t4, .ref t5, .ref t6, .ref t7, .ref t8, .ref t9]))] := hD
  have hw : r_1 = 0 := hw
  subst hw
  refine lv_if_eq (tgt := 42) hx hb dX8_isLetterMore_8 (by decide) (fun c_2 => ?_) (fun c_2 => absurd (by decide) c_2)
  refine lv_iconst (v := 0) hx hb dX8_isLetterMore_42 (by decide) ?_
  have hP9 := hP.sub (ws' := [(h0, .inr (8, [.ref x_tape, .ref x_reader, .ref x_current, .ref x_images, .ref x_kept, .ref x_slots, .ref x_diary, .ref x_base, .ref x_trial, .ref x_plan, .ref x_orders, .ref x_unanswered, .int 0, .int 0, .int (-1)])), (x_current, .inr (7, [.int 0, .int 0, .int 0, .int 0, .int 0, .int 0, .int 0, .int 0, .ref t0, .ref t1, .ref t2, .ref t3, .ref t4, .ref t5, .ref t6, .ref t7, .ref t8, .ref t9]))]) [0, 1] rfl
  have hD9 := hD.sub (ws' := [(h0, .inr (8, [.ref x_tape, .ref x_reader, .ref x_current, .ref x_images, .ref x_kept, .ref x_slots, .ref x_diary, .ref x_base, .ref x_trial, .ref x_plan, .ref x_orders, .ref x_unanswered, .int 0, .int 0, .int (-1)])), (x_current, .inr (7, [.int 0, .int 0, .int 0, .int 0, .int 0, .int 0, .int 0, .int 0, .ref t0, .ref t1, .ref t2, .ref t3, .ref t4, .ref t5, .ref t6, .ref t7, .ref t8, .ref t9]))]) [0, 1] (by decide) rfl
  have hK9 := hK.sub (tys' := []) [] rfl
  exact W.zret (v := 0) hx hb hr (by decide) (fun t ht hW => ⟨⟨0, (), rfl, rfl, by rw [ht]; exact hP9, va_K.moved hW.alike hK9, hD9⟩, hS.F ht⟩) hS.2.2 dX8_isLetterMore_43
set_option maxHeartbeats 4000000 in
set_option maxRecDepth 100000 in
theorem c_findOrders (l : Launch) (dC : Nat → ClassId) (dI : Nat → Nat → Nat) (sz : Nat) (h0 : Nat) (x_tape : Nat) (x_reader : Nat) (x_current : Nat) (x_images : Nat) (x_kept : Nat) (x_slots : Nat) (x_diary : Nat) (x_base : Nat) (x_trial : Nat) (x_plan : Nat) (x_orders : Nat) (x_unanswered : Nat) (t0 : Nat) (t1 : Nat) (t2 : Nat) (t3 : Nat) (t4 : Nat) (t5 : Nat) (t6 : Nat) (t7 : Nat) (t8 : Nat) (t9 : Nat) (a : Int32) (b : Int32)  : Met l yX8_findOrders (.code yX8_findOrders cX8_findOrders 5 (some .int) :: ALLW) ({ frames := 1, cells := 0, slots := 0, locals := 21 }) (va_Pc [.ref h0, .int a, .int b] (fun U => U.heap.size = sz ∧ va_P (dC, dI) vwCl [(h0, .inr (8, [.ref x_tape, .ref x_reader, .ref x_current, .ref x_images, .ref x_kept, .ref x_slots, .ref x_diary, .ref x_base, .ref x_trial, .ref x_plan, .ref x_orders, .ref x_unanswered, .int 0, .int 0, .int (-1)])), (x_current, .inr (7, [.int 0, .int 0, .int 0, .int 0, .int 0, .int 0, .int 0, .int 0, .ref t0, .ref t1, .ref t2, .ref t3, .ref t4, .ref t5, .ref t6, .ref t7, .ref t8, .ref t9]))] U.heap ∧ va_K (dC, dI) vwCl [] U ∧ va_D (fun _ => True) [(h0, .inr (8, [.ref x_tape, .ref x_reader, .ref x_current, .ref x_images, .ref x_kept, .ref x_slots, .ref x_diary, .ref x_base, .ref x_trial, .ref x_plan, .ref x_orders, .ref x_unanswered, .int 0, .int 0, .int (-1)])), (x_current, .inr (7, [.int 0, .int 0, .int 0, .int 0, .int 0, .int 0, .int 0, .int 0, .ref t0, .ref t1, .ref t2, .ref t3, .ref t4, .ref t5, .ref t6, .ref t7, .ref t8, .ref t9]))])) (va_Qi (fun (r : Int32) (_ : Unit) => r = (-2)) (fun (_ : Unit) (t : State) => va_P (dC, dI) vwCl [(h0, .inr (8, [.ref x_tape, .ref x_reader, .ref x_current, .ref x_images, .ref x_kept, .ref x_slots, .ref x_diary, .ref x_base, .ref x_trial, .ref x_plan, .ref x_orders, .ref x_unanswered, .int 0, .int 0, .int (-1)])), (x_current, .inr (7, [.int 0, .int 0, .int 0, .int 0, .int 0, .int 0, .int 0, .int 0, .ref t0, .ref t1, .ref t2, .ref t3, .ref t4, .ref t5, .ref t6, .ref t7, .ref t8, .ref t9]))] t.heap ∧ va_K (dC, dI) vwCl [] t ∧ va_D (va_A [(h0, .inr (8, [.ref x_tape, .ref x_reader, .ref x_current, .ref x_images, .ref x_kept, .ref x_slots, .ref x_diary, .ref x_base, .ref x_trial, .ref x_plan, .ref x_orders, .ref x_unanswered, .int 0, .int 0, .int (-1)])), (x_current, .inr (7, [.int 0, .int 0, .int 0, .int 0, .int 0, .int 0, .int 0, .int 0, .ref t0, .ref t1, .ref t2, .ref t3, .ref t4, .ref t5, .ref t6, .ref t7, .ref t8, .ref t9]))] sz) [(h0, .inr (8, [.ref x_tape, .ref x_reader, .ref x_current, .ref x_images, .ref x_kept, .ref x_slots, .ref x_diary, .ref x_base, .ref x_trial, .ref x_plan, .ref x_orders, .ref x_unanswered, .int 0, .int 0, .int (-1)])), (x_current, .inr (7, [.int 0, .int 0, .int 0, .int 0, .int 0, .int 0, .int 0, .int 0, .ref t0, .ref t1, .ref t2, .ref t3, .ref t4, .ref t5, .ref t6, .ref t7, .ref t8, .ref t9]))]) (va_A [(h0, .inr (8, [.ref x_tape, .ref x_reader, .ref x_current, .ref x_images, .ref x_kept, .ref x_slots, .ref x_diary, .ref x_base, .ref x_trial, .ref x_plan, .ref x_orders, .ref x_unanswered, .int 0, .int 0, .int (-1)])), (x_current, .inr (7, [.int 0, .int 0, .int 0, .int 0, .int 0, .int 0, .int 0, .int 0, .ref t0, .ref t1, .ref t2, .ref t3, .ref t4, .ref t5, .ref t6, .ref t7, .ref t8, .ref t9]))] sz)) 0 0 (va_A [(h0, .inr (8, [.ref x_tape, .ref x_reader, .ref x_current, .ref x_images, .ref x_kept, .ref x_slots, .ref x_diary, .ref x_base, .ref x_trial, .ref x_plan, .ref x_orders, .ref x_unanswered, .int 0, .int 0, .int (-1)])), (x_current, .inr (7, [.int 0, .int 0, .int 0, .int 0, .int 0, .int 0, .int 0, .int 0, .ref t0, .ref t1, .ref t2, .ref t3, .ref t4, .ref t5, .ref t6, .ref t7, .ref t8, .ref t9]))] sz) := by
  refine Met.ofW (cc := cX8_findOrders) (maxL := 5) (ret := (some .int)) (by decide) rfl ?_
  intro p e s m args below meth c s₁ B hml hv
  obtain ⟨rfl, hsz, hP, hK, hD0⟩ := hv
  have hx := B.exec
  have hb := B.bytes
  have hr := B.returns
  have hts0 := atoms_spec (ws := (.code yX8_findOrders cX8_findOrders 5 (some .int) :: ALLW)) B.pre
  have hts := fun (w : Cond) (h : w ∈ ALLW) => hts0 w (List.mem_cons_of_mem _ h)
  have hown : s.vm.findClass RX8 = some m.cls := findClass_of_methodNamed B.named
  have hlocks := B.notSynchronized
  subst hsz
  have hD := hD0.self (sz := s.heap.size)
  generalize hAe : va_A [(h0, .inr (8, [.ref x_tape, .ref x_reader, .ref x_current, .ref x_images, .ref x_kept, .ref x_slots, .ref x_diary, .ref x_base, .ref x_trial, .ref x_plan, .ref x_orders, .ref x_unanswered, .int 0, .int 0, .int (-1)])), (x_current, .inr (7, [.int 0, .int 0, .int 0, .int 0, .int 0, .int 0, .int 0, .int 0, .ref t0, .ref t1, .ref t2, .ref t3, .ref t4, .ref t5, .ref t6, .ref t7, .ref t8, .ref t9]))] s.heap.size = A at hD ⊢
  have hA : ∀ q : Nat, s.heap.size ≤ q → A q := fun q h => by rw [← hAe]; exact Or.inr h
  have hS : va_S A s.heap s.heap [] := va_S.rf
  have hP : va_P (dC, dI) vwCl [(h0, .inr (8, [.ref x_tape, .ref x_reader, .ref x_current, .ref x_images, .ref x_kept, .ref x_slots, .ref x_diary, .ref x_base, .ref x_trial, .ref x_plan, .ref x_orders, .ref x_unanswered, .int 0, .int 0, .int (-1)])), (x_current, .inr (7, [.int 0, .int 0, .int 0, .int 0, .int 0, .int 0, .int 0, .int 0, .ref t0, .ref t1, .ref t2, .ref t3, .ref t4, .ref t5, .ref t6, .ref t7, .ref t8, .ref t9]))] s.heap := hP
  have hl := lv_entry ([.ref h0, .int a, .int b]) (n := 5) (Nat.le_of_ble_eq_true rfl)
  rw [lg_entry_eq]
  generalize (lg_sl ([.ref h0, .int a, .int b]) ++ List.replicate (5 - (lg_sl ([.ref h0, .int a, .int b])).length) Slot.unset).toArray = ls at hl ⊢
  have hl : lv_has ls 5 [(0, .ref h0), (1, .int a), (2, .int b)] := hl
  refine lv_aload_n hx hb dX8_findOrders_0 rfl (lv_at hl 0 rfl) ?_
  refine va_get (D := (dC, dI)) (ci := 8) (v := .ref x_current) (C := RX8) (T := TX8) (N := 15) hx hb hts inA8 hown hK hP 0 rfl rfl 2 (by decide) (hts _ w_24) (fun _ h9 => h9) rfl dX8_findOrders_1 ?_
  refine lv_iload_n hx hb dX8_findOrders_4 rfl (lv_at hl 1 rfl) ?_
  have hPc := hP.sub (ws' := [(x_current, .inr (7, [.int 0, .int 0, .int 0, .int 0, .int 0, .int 0, .int 0, .int 0, .ref t0, .ref t1, .ref t2, .ref t3, .ref t4, .ref t5, .ref t6, .ref t7, .ref t8, .ref t9]))]) [1] rfl
  have hDc := hD.sub (ws' := [(x_current, .inr (7, [.int 0, .int 0, .int 0, .int 0, .int 0, .int 0, .int 0, .int 0, .ref t0, .ref t1, .ref t2, .ref t3, .ref t4, .ref t5, .ref t6, .ref t7, .ref t8, .ref t9]))]) [1] (by decide) rfl
  have hKc := hK.sub (tys' := []) [] rfl
  have hFc := va_free (wc := [(x_current, .inr (7, [.int 0, .int 0, .int 0, .int 0, .int 0, .int 0, .int 0, .int 0, .ref t0, .ref t1, .ref t2, .ref t3, .ref t4, .ref t5, .ref t6, .ref t7, .ref t8, .ref t9]))]) hD hS hA [1] rfl
  refine va_calli (va_runV (As := [.int a]) (rest := []) ⟨hx, hb, hml, hown, hts⟩ (c_isPerson l dC dI s.heap.size x_current t0 t1 t2 t3 t4 t5 t6 t7 t8 t9 a ) (cwV 1 hts (goodV w_538 w_539 w_540 w_23 w_541) rfl rfl rfl hdV_X7_isPerson ⟨Nat.le_of_ble_eq_true rfl, Nat.le_of_ble_eq_true rfl⟩) ⟨fun a U g mk q => by obtain ⟨q0, q1, qP, qK, qD⟩ := q; exact ⟨q0, q1, qP, va_K.moved (u := U) (U := U.calling g mk a) (Vm.Alike.refl U.vm) qK, qD⟩, va_recv hKc hPc (ci := 7) (q0 := 0) rfl rfl, fun U hU hW => ⟨rfl, by rw [hU], by rw [hU]; exact hPc, va_K.moved hW.alike hKc, hDc.weaken (fun _ _ _ _ => trivial)⟩⟩ rfl rfl hl.1 rfl (lv_room (Nat.le_of_ble_eq_true rfl)) dX8_findOrders_5 ⟨Nat.le_of_ble_eq_true rfl, Nat.le_of_ble_eq_true rfl⟩) hS (fun q _ h => hFc q h) hFc (fun r_1 u t H1 locs ht hvm hw hB hz1 hk1 hS => ?_)
  obtain ⟨hP1, hK1, hD1⟩ := hB
  rw [ht] at hP1
  have hK1 := va_K.moved hvm.symm hK1
  obtain ⟨hP, hD⟩ := va_join (wr := [(h0, .inr (8, [.ref x_tape, .ref x_reader, .ref x_current, .ref x_images, .ref x_kept, .ref x_slots, .ref x_diary, .ref x_base, .ref x_trial, .ref x_plan, .ref x_orders, .ref x_unanswered, .int 0, .int 0, .int (-1)]))]) (w1 := [(x_current, .inr (7, [.int 0, .int 0, .int 0, .int 0, .int 0, .int 0, .int 0, .int 0, .ref t0, .ref t1, .ref t2, .ref t3, .ref t4, .ref t5, .ref t6, .ref t7, .ref t8, .ref t9]))]) hP hD [1] [0] rfl rfl (by decide) (by decide) hk1 hFc hP1 hD1
  clear hPc hDc hKc hFc
  generalize H1 = H at hP hS ⊢
  have hP : va_P (dC, dI) vwCl [(h0, .inr (8, [.ref x_tape, .ref x_reader, .ref x_current, .ref x_images, .ref x_kept, .ref x_slots, .ref x_diary, .ref x_base, .ref x_trial, .ref x_plan, .ref x_orders, .ref x_unanswered, .int 0, .int 0, .int (-1)])), (x_current, .inr (7, [.int 0, .int 0, .int 0, .int 0, .int 0, .int 0, .int 0, .int 0, .ref t0, .ref t1, .ref t2, .ref t3, .ref t4, .ref t5, .ref t6, .ref t7, .ref t8, .ref t9]))] H := hP
  have hD : va_D A [(h0, .inr (8, [.ref x_tape, .ref x_reader, .ref x_current, .ref x_images, .ref x_kept, .ref x_slots, .ref x_diary, .ref x_base, .ref x_trial, .ref x_plan, .ref x_orders, .ref x_unanswered, .int 0, .int 0, .int (-1)])), (x_current, .inr (7, [.int 0, .int 0, .int 0, .int 0, .int 0, .int 0, .int 0, .int 0, .ref t0, .ref t1, .ref t2, .ref t3, .ref t4, .ref t5, .ref t6, .ref t7, .ref t8, .ref t9]))] := hD
  have hw : r_1 = 0 := hw
  subst hw
  refine lv_if_eq (tgt := 22) hx hb dX8_findOrders_8 (by decide) (fun c_2 => ?_) (fun c_2 => absurd (by decide) c_2)
  refine lv_bipush (v := (-2)) hx hb dX8_findOrders_22 (by decide) ?_
  have hP9 := hP.sub (ws' := [(h0, .inr (8, [.ref x_tape, .ref x_reader, .ref x_current, .ref x_images, .ref x_kept, .ref x_slots, .ref x_diary, .ref x_base, .ref x_trial, .ref x_plan, .ref x_orders, .ref x_unanswered, .int 0, .int 0, .int (-1)])), (x_current, .inr (7, [.int 0, .int 0, .int 0, .int 0, .int 0, .int 0, .int 0, .int 0, .ref t0, .ref t1, .ref t2, .ref t3, .ref t4, .ref t5, .ref t6, .ref t7, .ref t8, .ref t9]))]) [0, 1] rfl
  have hD9 := hD.sub (ws' := [(h0, .inr (8, [.ref x_tape, .ref x_reader, .ref x_current, .ref x_images, .ref x_kept, .ref x_slots, .ref x_diary, .ref x_base, .ref x_trial, .ref x_plan, .ref x_orders, .ref x_unanswered, .int 0, .int 0, .int (-1)])), (x_current, .inr (7, [.int 0, .int 0, .int 0, .int 0, .int 0, .int 0, .int 0, .int 0, .ref t0, .ref t1, .ref t2, .ref t3, .ref t4, .ref t5, .ref t6, .ref t7, .ref t8, .ref t9]))]) [0, 1] (by decide) rfl
  have hK9 := hK.sub (tys' := []) [] rfl
  exact W.iret (v := (-2)) hx hb hr (fun t ht hW => ⟨⟨(-2), (), rfl, rfl, by rw [ht]; exact hP9, va_K.moved hW.alike hK9, hD9⟩, hS.F ht⟩) hS.2.2 dX8_findOrders_24
set_option maxHeartbeats 4000000 in
set_option maxRecDepth 100000 in
theorem x_person (l : Launch) (dC : Nat → ClassId) (dI : Nat → Nat → Nat) (sz : Nat) (h0 : Nat) (x_tape : Nat) (x_reader : Nat) (x_current : Nat) (x_images : Nat) (x_kept : Nat) (x_slots : Nat) (x_diary : Nat) (x_base : Nat) (x_trial : Nat) (x_plan : Nat) (x_orders : Nat) (x_unanswered : Nat) (t0 : Nat) (t1 : Nat) (t2 : Nat) (t3 : Nat) (t4 : Nat) (t5 : Nat) (t6 : Nat) (t7 : Nat) (t8 : Nat) (t9 : Nat) (a : Int32) (b : Int32)  : Met l yX8_person (.code yX8_person cX8_person 3 (some .int) :: ALLW) ({ frames := 1, cells := 0, slots := 0, locals := 21 }) (va_Pc [.ref h0, .int a, .int b] (fun U => U.heap.size = sz ∧ va_P (dC, dI) vwCl [(h0, .inr (8, [.ref x_tape, .ref x_reader, .ref x_current, .ref x_images, .ref x_kept, .ref x_slots, .ref x_diary, .ref x_base, .ref x_trial, .ref x_plan, .ref x_orders, .ref x_unanswered, .int 0, .int 0, .int (-1)])), (x_current, .inr (7, [.int 0, .int 0, .int 0, .int 0, .int 0, .int 0, .int 0, .int 0, .ref t0, .ref t1, .ref t2, .ref t3, .ref t4, .ref t5, .ref t6, .ref t7, .ref t8, .ref t9]))] U.heap ∧ va_K (dC, dI) vwCl [] U ∧ va_D (fun _ => True) [(h0, .inr (8, [.ref x_tape, .ref x_reader, .ref x_current, .ref x_images, .ref x_kept, .ref x_slots, .ref x_diary, .ref x_base, .ref x_trial, .ref x_plan, .ref x_orders, .ref x_unanswered, .int 0, .int 0, .int (-1)])), (x_current, .inr (7, [.int 0, .int 0, .int 0, .int 0, .int 0, .int 0, .int 0, .int 0, .ref t0, .ref t1, .ref t2, .ref t3, .ref t4, .ref t5, .ref t6, .ref t7, .ref t8, .ref t9]))])) (va_Qi (fun (r : Int32) (_ : Unit) => r = (-2)) (fun (_ : Unit) (_ : State) => True) (va_A [(h0, .inr (8, [.ref x_tape, .ref x_reader, .ref x_current, .ref x_images, .ref x_kept, .ref x_slots, .ref x_diary, .ref x_base, .ref x_trial, .ref x_plan, .ref x_orders, .ref x_unanswered, .int 0, .int 0, .int (-1)])), (x_current, .inr (7, [.int 0, .int 0, .int 0, .int 0, .int 0, .int 0, .int 0, .int 0, .ref t0, .ref t1, .ref t2, .ref t3, .ref t4, .ref t5, .ref t6, .ref t7, .ref t8, .ref t9]))] sz)) 0 0 (va_A [(h0, .inr (8, [.ref x_tape, .ref x_reader, .ref x_current, .ref x_images, .ref x_kept, .ref x_slots, .ref x_diary, .ref x_base, .ref x_trial, .ref x_plan, .ref x_orders, .ref x_unanswered, .int 0, .int 0, .int (-1)])), (x_current, .inr (7, [.int 0, .int 0, .int 0, .int 0, .int 0, .int 0, .int 0, .int 0, .ref t0, .ref t1, .ref t2, .ref t3, .ref t4, .ref t5, .ref t6, .ref t7, .ref t8, .ref t9]))] sz) := by
  refine Met.ofW (cc := cX8_person) (maxL := 3) (ret := (some .int)) (by decide) rfl ?_
  intro p e s m args below meth c s₁ B hml hv
  obtain ⟨rfl, hsz, hP, hK, hD0⟩ := hv
  have hx := B.exec
  have hb := B.bytes
  have hr := B.returns
  have hts0 := atoms_spec (ws := (.code yX8_person cX8_person 3 (some .int) :: ALLW)) B.pre
  have hts := fun (w : Cond) (h : w ∈ ALLW) => hts0 w (List.mem_cons_of_mem _ h)
  have hown : s.vm.findClass RX8 = some m.cls := findClass_of_methodNamed B.named
  have hlocks := B.notSynchronized
  subst hsz
  have hD := hD0.self (sz := s.heap.size)
  generalize hAe : va_A [(h0, .inr (8, [.ref x_tape, .ref x_reader, .ref x_current, .ref x_images, .ref x_kept, .ref x_slots, .ref x_diary, .ref x_base, .ref x_trial, .ref x_plan, .ref x_orders, .ref x_unanswered, .int 0, .int 0, .int (-1)])), (x_current, .inr (7, [.int 0, .int 0, .int 0, .int 0, .int 0, .int 0, .int 0, .int 0, .ref t0, .ref t1, .ref t2, .ref t3, .ref t4, .ref t5, .ref t6, .ref t7, .ref t8, .ref t9]))] s.heap.size = A at hD ⊢
  have hA : ∀ q : Nat, s.heap.size ≤ q → A q := fun q h => by rw [← hAe]; exact Or.inr h
  have hS : va_S A s.heap s.heap [] := va_S.rf
  have hP : va_P (dC, dI) vwCl [(h0, .inr (8, [.ref x_tape, .ref x_reader, .ref x_current, .ref x_images, .ref x_kept, .ref x_slots, .ref x_diary, .ref x_base, .ref x_trial, .ref x_plan, .ref x_orders, .ref x_unanswered, .int 0, .int 0, .int (-1)])), (x_current, .inr (7, [.int 0, .int 0, .int 0, .int 0, .int 0, .int 0, .int 0, .int 0, .ref t0, .ref t1, .ref t2, .ref t3, .ref t4, .ref t5, .ref t6, .ref t7, .ref t8, .ref t9]))] s.heap := hP
  have hl := lv_entry ([.ref h0, .int a, .int b]) (n := 3) (Nat.le_of_ble_eq_true rfl)
  rw [lg_entry_eq]
  generalize (lg_sl ([.ref h0, .int a, .int b]) ++ List.replicate (3 - (lg_sl ([.ref h0, .int a, .int b])).length) Slot.unset).toArray = ls at hl ⊢
  have hl : lv_has ls 3 [(0, .ref h0), (1, .int a), (2, .int b)] := hl
  refine lv_aload_n hx hb dX8_person_0 rfl (lv_at hl 0 rfl) ?_
  refine va_get (D := (dC, dI)) (ci := 8) (v := .ref x_current) (C := RX8) (T := TX8) (N := 15) hx hb hts inA8 hown hK hP 0 rfl rfl 2 (by decide) (hts _ w_24) (fun _ h9 => h9) rfl dX8_person_1 ?_
  refine lv_iload_n hx hb dX8_person_4 rfl (lv_at hl 1 rfl) ?_
  have hPc := hP.sub (ws' := [(x_current, .inr (7, [.int 0, .int 0, .int 0, .int 0, .int 0, .int 0, .int 0, .int 0, .ref t0, .ref t1, .ref t2, .ref t3, .ref t4, .ref t5, .ref t6, .ref t7, .ref t8, .ref t9]))]) [1] rfl
  have hDc := hD.sub (ws' := [(x_current, .inr (7, [.int 0, .int 0, .int 0, .int 0, .int 0, .int 0, .int 0, .int 0, .ref t0, .ref t1, .ref t2, .ref t3, .ref t4, .ref t5, .ref t6, .ref t7, .ref t8, .ref t9]))]) [1] (by decide) rfl
  have hKc := hK.sub (tys' := []) [] rfl
  have hFc := va_free (wc := [(x_current, .inr (7, [.int 0, .int 0, .int 0, .int 0, .int 0, .int 0, .int 0, .int 0, .ref t0, .ref t1, .ref t2, .ref t3, .ref t4, .ref t5, .ref t6, .ref t7, .ref t8, .ref t9]))]) hD hS hA [1] rfl
  refine va_calli (va_runV (As := [.int a]) (rest := []) ⟨hx, hb, hml, hown, hts⟩ (c_isPerson l dC dI s.heap.size x_current t0 t1 t2 t3 t4 t5 t6 t7 t8 t9 a ) (cwV 1 hts (goodV w_538 w_539 w_540 w_23 w_541) rfl rfl rfl hdV_X7_isPerson ⟨Nat.le_of_ble_eq_true rfl, Nat.le_of_ble_eq_true rfl⟩) ⟨fun a U g mk q => by obtain ⟨q0, q1, qP, qK, qD⟩ := q; exact ⟨q0, q1, qP, va_K.moved (u := U) (U := U.calling g mk a) (Vm.Alike.refl U.vm) qK, qD⟩, va_recv hKc hPc (ci := 7) (q0 := 0) rfl rfl, fun U hU hW => ⟨rfl, by rw [hU], by rw [hU]; exact hPc, va_K.moved hW.alike hKc, hDc.weaken (fun _ _ _ _ => trivial)⟩⟩ rfl rfl hl.1 rfl (lv_room (Nat.le_of_ble_eq_true rfl)) dX8_person_5 ⟨Nat.le_of_ble_eq_true rfl, Nat.le_of_ble_eq_true rfl⟩) hS (fun q _ h => hFc q h) hFc (fun r_1 u t H1 locs ht hvm hw hB hz1 hk1 hS => ?_)
  obtain ⟨hP1, hK1, hD1⟩ := hB
  rw [ht] at hP1
  have hK1 := va_K.moved hvm.symm hK1
  obtain ⟨hP, hD⟩ := va_join (wr := [(h0, .inr (8, [.ref x_tape, .ref x_reader, .ref x_current, .ref x_images, .ref x_kept, .ref x_slots, .ref x_diary, .ref x_base, .ref x_trial, .ref x_plan, .ref x_orders, .ref x_unanswered, .int 0, .int 0, .int (-1)]))]) (w1 := [(x_current, .inr (7, [.int 0, .int 0, .int 0, .int 0, .int 0, .int 0, .int 0, .int 0, .ref t0, .ref t1, .ref t2, .ref t3, .ref t4, .ref t5, .ref t6, .ref t7, .ref t8, .ref t9]))]) hP hD [1] [0] rfl rfl (by decide) (by decide) hk1 hFc hP1 hD1
  clear hPc hDc hKc hFc
  generalize H1 = H at hP hS ⊢
  have hP : va_P (dC, dI) vwCl [(h0, .inr (8, [.ref x_tape, .ref x_reader, .ref x_current, .ref x_images, .ref x_kept, .ref x_slots, .ref x_diary, .ref x_base, .ref x_trial, .ref x_plan, .ref x_orders, .ref x_unanswered, .int 0, .int 0, .int (-1)])), (x_current, .inr (7, [.int 0, .int 0, .int 0, .int 0, .int 0, .int 0, .int 0, .int 0, .ref t0, .ref t1, .ref t2, .ref t3, .ref t4, .ref t5, .ref t6, .ref t7, .ref t8, .ref t9]))] H := hP
  have hD : va_D A [(h0, .inr (8, [.ref x_tape, .ref x_reader, .ref x_current, .ref x_images, .ref x_kept, .ref x_slots, .ref x_diary, .ref x_base, .ref x_trial, .ref x_plan, .ref x_orders, .ref x_unanswered, .int 0, .int 0, .int (-1)])), (x_current, .inr (7, [.int 0, .int 0, .int 0, .int 0, .int 0, .int 0, .int 0, .int 0, .ref t0, .ref t1, .ref t2, .ref t3, .ref t4, .ref t5, .ref t6, .ref t7, .ref t8, .ref t9]))] := hD
  have hw : r_1 = 0 := hw
  subst hw
  refine lv_if_ne (tgt := 14) hx hb dX8_person_8 (by decide) (fun c_2 => absurd (by decide) c_2) (fun c_2 => ?_)
  refine lv_bipush (v := (-2)) hx hb dX8_person_11 (by decide) ?_
  exact W.iret (v := (-2)) hx hb hr (fun t ht hW => ⟨⟨(-2), (), rfl, rfl, trivial⟩, hS.F ht⟩) hS.2.2 dX8_person_13
set_option maxHeartbeats 4000000 in
set_option maxRecDepth 100000 in
theorem x_hours (l : Launch) (dC : Nat → ClassId) (dI : Nat → Nat → Nat) (sz : Nat) (h0 : Nat) (x_tape : Nat) (x_reader : Nat) (x_current : Nat) (x_images : Nat) (x_kept : Nat) (x_slots : Nat) (x_diary : Nat) (x_base : Nat) (x_trial : Nat) (x_plan : Nat) (x_orders : Nat) (x_unanswered : Nat) (t0 : Nat) (t1 : Nat) (t2 : Nat) (t3 : Nat) (t4 : Nat) (t5 : Nat) (t6 : Nat) (t7 : Nat) (t8 : Nat) (t9 : Nat) (a : Int32) (b : Int32)  : Met l yX8_hours (.code yX8_hours cX8_hours 4 (some .int) :: ALLW) ({ frames := 1, cells := 0, slots := 0, locals := 21 }) (va_Pc [.ref h0, .int a, .int b] (fun U => U.heap.size = sz ∧ va_P (dC, dI) vwCl [(h0, .inr (8, [.ref x_tape, .ref x_reader, .ref x_current, .ref x_images, .ref x_kept, .ref x_slots, .ref x_diary, .ref x_base, .ref x_trial, .ref x_plan, .ref x_orders, .ref x_unanswered, .int 0, .int 0, .int (-1)])), (x_current, .inr (7, [.int 0, .int 0, .int 0, .int 0, .int 0, .int 0, .int 0, .int 0, .ref t0, .ref t1, .ref t2, .ref t3, .ref t4, .ref t5, .ref t6, .ref t7, .ref t8, .ref t9]))] U.heap ∧ va_K (dC, dI) vwCl [] U ∧ va_D (fun _ => True) [(h0, .inr (8, [.ref x_tape, .ref x_reader, .ref x_current, .ref x_images, .ref x_kept, .ref x_slots, .ref x_diary, .ref x_base, .ref x_trial, .ref x_plan, .ref x_orders, .ref x_unanswered, .int 0, .int 0, .int (-1)])), (x_current, .inr (7, [.int 0, .int 0, .int 0, .int 0, .int 0, .int 0, .int 0, .int 0, .ref t0, .ref t1, .ref t2, .ref t3, .ref t4, .ref t5, .ref t6, .ref t7, .ref t8, .ref t9]))])) (va_Qi (fun (r : Int32) (_ : Unit) => r = (-2)) (fun (_ : Unit) (_ : State) => True) (va_A [(h0, .inr (8, [.ref x_tape, .ref x_reader, .ref x_current, .ref x_images, .ref x_kept, .ref x_slots, .ref x_diary, .ref x_base, .ref x_trial, .ref x_plan, .ref x_orders, .ref x_unanswered, .int 0, .int 0, .int (-1)])), (x_current, .inr (7, [.int 0, .int 0, .int 0, .int 0, .int 0, .int 0, .int 0, .int 0, .ref t0, .ref t1, .ref t2, .ref t3, .ref t4, .ref t5, .ref t6, .ref t7, .ref t8, .ref t9]))] sz)) 0 0 (va_A [(h0, .inr (8, [.ref x_tape, .ref x_reader, .ref x_current, .ref x_images, .ref x_kept, .ref x_slots, .ref x_diary, .ref x_base, .ref x_trial, .ref x_plan, .ref x_orders, .ref x_unanswered, .int 0, .int 0, .int (-1)])), (x_current, .inr (7, [.int 0, .int 0, .int 0, .int 0, .int 0, .int 0, .int 0, .int 0, .ref t0, .ref t1, .ref t2, .ref t3, .ref t4, .ref t5, .ref t6, .ref t7, .ref t8, .ref t9]))] sz) := by
  refine Met.ofW (cc := cX8_hours) (maxL := 4) (ret := (some .int)) (by decide) rfl ?_
  intro p e s m args below meth c s₁ B hml hv
  obtain ⟨rfl, hsz, hP, hK, hD0⟩ := hv
  have hx := B.exec
  have hb := B.bytes
  have hr := B.returns
  have hts0 := atoms_spec (ws := (.code yX8_hours cX8_hours 4 (some .int) :: ALLW)) B.pre
  have hts := fun (w : Cond) (h : w ∈ ALLW) => hts0 w (List.mem_cons_of_mem _ h)
  have hown : s.vm.findClass RX8 = some m.cls := findClass_of_methodNamed B.named
  have hlocks := B.notSynchronized
  subst hsz
  have hD := hD0.self (sz := s.heap.size)
  generalize hAe : va_A [(h0, .inr (8, [.ref x_tape, .ref x_reader, .ref x_current, .ref x_images, .ref x_kept, .ref x_slots, .ref x_diary, .ref x_base, .ref x_trial, .ref x_plan, .ref x_orders, .ref x_unanswered, .int 0, .int 0, .int (-1)])), (x_current, .inr (7, [.int 0, .int 0, .int 0, .int 0, .int 0, .int 0, .int 0, .int 0, .ref t0, .ref t1, .ref t2, .ref t3, .ref t4, .ref t5, .ref t6, .ref t7, .ref t8, .ref t9]))] s.heap.size = A at hD ⊢
  have hA : ∀ q : Nat, s.heap.size ≤ q → A q := fun q h => by rw [← hAe]; exact Or.inr h
  have hS : va_S A s.heap s.heap [] := va_S.rf
  have hP : va_P (dC, dI) vwCl [(h0, .inr (8, [.ref x_tape, .ref x_reader, .ref x_current, .ref x_images, .ref x_kept, .ref x_slots, .ref x_diary, .ref x_base, .ref x_trial, .ref x_plan, .ref x_orders, .ref x_unanswered, .int 0, .int 0, .int (-1)])), (x_current, .inr (7, [.int 0, .int 0, .int 0, .int 0, .int 0, .int 0, .int 0, .int 0, .ref t0, .ref t1, .ref t2, .ref t3, .ref t4, .ref t5, .ref t6, .ref t7, .ref t8, .ref t9]))] s.heap := hP
  have hl := lv_entry ([.ref h0, .int a, .int b]) (n := 4) (Nat.le_of_ble_eq_true rfl)
  rw [lg_entry_eq]
  generalize (lg_sl ([.ref h0, .int a, .int b]) ++ List.replicate (4 - (lg_sl ([.ref h0, .int a, .int b])).length) Slot.unset).toArray = ls at hl ⊢
  have hl : lv_has ls 4 [(0, .ref h0), (1, .int a), (2, .int b)] := hl
  refine lv_aload_n hx hb dX8_hours_0 rfl (lv_at hl 0 rfl) ?_
  refine va_get (D := (dC, dI)) (ci := 8) (v := .ref x_current) (C := RX8) (T := TX8) (N := 15) hx hb hts inA8 hown hK hP 0 rfl rfl 2 (by decide) (hts _ w_24) (fun _ h9 => h9) rfl dX8_hours_1 ?_
  refine lv_iload_n hx hb dX8_hours_4 rfl (lv_at hl 1 rfl) ?_
  have hPc := hP.sub (ws' := [(x_current, .inr (7, [.int 0, .int 0, .int 0, .int 0, .int 0, .int 0, .int 0, .int 0, .ref t0, .ref t1, .ref t2, .ref t3, .ref t4, .ref t5, .ref t6, .ref t7, .ref t8, .ref t9]))]) [1] rfl
  have hDc := hD.sub (ws' := [(x_current, .inr (7, [.int 0, .int 0, .int 0, .int 0, .int 0, .int 0, .int 0, .int 0, .ref t0, .ref t1, .ref t2, .ref t3, .ref t4, .ref t5, .ref t6, .ref t7, .ref t8, .ref t9]))]) [1] (by decide) rfl
  have hKc := hK.sub (tys' := []) [] rfl
  have hFc := va_free (wc := [(x_current, .inr (7, [.int 0, .int 0, .int 0, .int 0, .int 0, .int 0, .int 0, .int 0, .ref t0, .ref t1, .ref t2, .ref t3, .ref t4, .ref t5, .ref t6, .ref t7, .ref t8, .ref t9]))]) hD hS hA [1] rfl
  refine va_calli (va_runV (As := [.int a]) (rest := []) ⟨hx, hb, hml, hown, hts⟩ (c_isTold l dC dI s.heap.size x_current t0 t1 t2 t3 t4 t5 t6 t7 t8 t9 a ) (cwV 1 hts (goodV w_806 w_568 w_569 w_23 w_570) rfl rfl rfl hdV_X7_isTold ⟨Nat.le_of_ble_eq_true rfl, Nat.le_of_ble_eq_true rfl⟩) ⟨fun a U g mk q => by obtain ⟨q0, q1, qP, qK, qD⟩ := q; exact ⟨q0, q1, qP, va_K.moved (u := U) (U := U.calling g mk a) (Vm.Alike.refl U.vm) qK, qD⟩, va_recv hKc hPc (ci := 7) (q0 := 0) rfl rfl, fun U hU hW => ⟨rfl, by rw [hU], by rw [hU]; exact hPc, va_K.moved hW.alike hKc, hDc.weaken (fun _ _ _ _ => trivial)⟩⟩ rfl rfl hl.1 rfl (lv_room (Nat.le_of_ble_eq_true rfl)) dX8_hours_5 ⟨Nat.le_of_ble_eq_true rfl, Nat.le_of_ble_eq_true rfl⟩) hS (fun q _ h => hFc q h) hFc (fun r_1 u t H1 locs ht hvm hw hB hz1 hk1 hS => ?_)
  obtain ⟨hP1, hK1, hD1⟩ := hB
  rw [ht] at hP1
  have hK1 := va_K.moved hvm.symm hK1
  obtain ⟨hP, hD⟩ := va_join (wr := [(h0, .inr (8, [.ref x_tape, .ref x_reader, .ref x_current, .ref x_images, .ref x_kept, .ref x_slots, .ref x_diary, .ref x_base, .ref x_trial, .ref x_plan, .ref x_orders, .ref x_unanswered, .int 0, .int 0, .int (-1)]))]) (w1 := [(x_current, .inr (7, [.int 0, .int 0, .int 0, .int 0, .int 0, .int 0, .int 0, .int 0, .ref t0, .ref t1, .ref t2, .ref t3, .ref t4, .ref t5, .ref t6, .ref t7, .ref t8, .ref t9]))]) hP hD [1] [0] rfl rfl (by decide) (by decide) hk1 hFc hP1 hD1
  clear hPc hDc hKc hFc
  generalize H1 = H at hP hS ⊢
  have hP : va_P (dC, dI) vwCl [(h0, .inr (8, [.ref x_tape, .ref x_reader, .ref x_current, .ref x_images, .ref x_kept, .ref x_slots, .ref x_diary, .ref x_base, .ref x_trial, .ref x_plan, .ref x_orders, .ref x_unanswered, .int 0, .int 0, .int (-1)])), (x_current, .inr (7, [.int 0, .int 0, .int 0, .int 0, .int 0, .int 0, .int 0, .int 0, .ref t0, .ref t1, .ref t2, .ref t3, .ref t4, .ref t5, .ref t6, .ref t7, .ref t8, .ref t9]))] H := hP
  have hD : va_D A [(h0, .inr (8, [.ref x_tape, .ref x_reader, .ref x_current, .ref x_images, .ref x_kept, .ref x_slots, .ref x_diary, .ref x_base, .ref x_trial, .ref x_plan, .ref x_orders, .ref x_unanswered, .int 0, .int 0, .int (-1)])), (x_current, .inr (7, [.int 0, .int 0, .int 0, .int 0, .int 0, .int 0, .int 0, .int 0, .ref t0, .ref t1, .ref t2, .ref t3, .ref t4, .ref t5, .ref t6, .ref t7, .ref t8, .ref t9]))] := hD
  have hw : r_1 = 0 := hw
  subst hw
  refine lv_if_eq (tgt := 22) hx hb dX8_hours_8 (by decide) (fun c_2 => ?_) (fun c_2 => absurd (by decide) c_2)
  refine lv_bipush (v := (-2)) hx hb dX8_hours_22 (by decide) ?_
  exact W.iret (v := (-2)) hx hb hr (fun t ht hW => ⟨⟨(-2), (), rfl, rfl, trivial⟩, hS.F ht⟩) hS.2.2 dX8_hours_24
set_option maxHeartbeats 4000000 in
set_option maxRecDepth 100000 in
theorem x_law (l : Launch) (dC : Nat → ClassId) (dI : Nat → Nat → Nat) (sz : Nat) (h0 : Nat) (x_tape : Nat) (x_reader : Nat) (x_current : Nat) (x_images : Nat) (x_kept : Nat) (x_slots : Nat) (x_diary : Nat) (x_base : Nat) (x_trial : Nat) (x_plan : Nat) (x_orders : Nat) (x_unanswered : Nat) (t0 : Nat) (t1 : Nat) (t2 : Nat) (t3 : Nat) (t4 : Nat) (t5 : Nat) (t6 : Nat) (t7 : Nat) (t8 : Nat) (t9 : Nat) (a : Int32)  : Met l yX8_law (.code yX8_law cX8_law 3 (some .int) :: ALLW) ({ frames := 1, cells := 0, slots := 0, locals := 20 }) (va_Pc [.ref h0, .int a] (fun U => U.heap.size = sz ∧ va_P (dC, dI) vwCl [(h0, .inr (8, [.ref x_tape, .ref x_reader, .ref x_current, .ref x_images, .ref x_kept, .ref x_slots, .ref x_diary, .ref x_base, .ref x_trial, .ref x_plan, .ref x_orders, .ref x_unanswered, .int 0, .int 0, .int (-1)])), (x_current, .inr (7, [.int 0, .int 0, .int 0, .int 0, .int 0, .int 0, .int 0, .int 0, .ref t0, .ref t1, .ref t2, .ref t3, .ref t4, .ref t5, .ref t6, .ref t7, .ref t8, .ref t9]))] U.heap ∧ va_K (dC, dI) vwCl [] U ∧ va_D (fun _ => True) [(h0, .inr (8, [.ref x_tape, .ref x_reader, .ref x_current, .ref x_images, .ref x_kept, .ref x_slots, .ref x_diary, .ref x_base, .ref x_trial, .ref x_plan, .ref x_orders, .ref x_unanswered, .int 0, .int 0, .int (-1)])), (x_current, .inr (7, [.int 0, .int 0, .int 0, .int 0, .int 0, .int 0, .int 0, .int 0, .ref t0, .ref t1, .ref t2, .ref t3, .ref t4, .ref t5, .ref t6, .ref t7, .ref t8, .ref t9]))])) (va_Qi (fun (r : Int32) (_ : Unit) => r = (-2)) (fun (_ : Unit) (_ : State) => True) (va_A [(h0, .inr (8, [.ref x_tape, .ref x_reader, .ref x_current, .ref x_images, .ref x_kept, .ref x_slots, .ref x_diary, .ref x_base, .ref x_trial, .ref x_plan, .ref x_orders, .ref x_unanswered, .int 0, .int 0, .int (-1)])), (x_current, .inr (7, [.int 0, .int 0, .int 0, .int 0, .int 0, .int 0, .int 0, .int 0, .ref t0, .ref t1, .ref t2, .ref t3, .ref t4, .ref t5, .ref t6, .ref t7, .ref t8, .ref t9]))] sz)) 0 0 (va_A [(h0, .inr (8, [.ref x_tape, .ref x_reader, .ref x_current, .ref x_images, .ref x_kept, .ref x_slots, .ref x_diary, .ref x_base, .ref x_trial, .ref x_plan, .ref x_orders, .ref x_unanswered, .int 0, .int 0, .int (-1)])), (x_current, .inr (7, [.int 0, .int 0, .int 0, .int 0, .int 0, .int 0, .int 0, .int 0, .ref t0, .ref t1, .ref t2, .ref t3, .ref t4, .ref t5, .ref t6, .ref t7, .ref t8, .ref t9]))] sz) := by
  refine Met.ofW (cc := cX8_law) (maxL := 3) (ret := (some .int)) (by decide) rfl ?_
  intro p e s m args below meth c s₁ B hml hv
  obtain ⟨rfl, hsz, hP, hK, hD0⟩ := hv
  have hx := B.exec
  have hb := B.bytes
  have hr := B.returns
  have hts0 := atoms_spec (ws := (.code yX8_law cX8_law 3 (some .int) :: ALLW)) B.pre
  have hts := fun (w : Cond) (h : w ∈ ALLW) => hts0 w (List.mem_cons_of_mem _ h)
  have hown : s.vm.findClass RX8 = some m.cls := findClass_of_methodNamed B.named
  have hlocks := B.notSynchronized
  subst hsz
  have hD := hD0.self (sz := s.heap.size)
  generalize hAe : va_A [(h0, .inr (8, [.ref x_tape, .ref x_reader, .ref x_current, .ref x_images, .ref x_kept, .ref x_slots, .ref x_diary, .ref x_base, .ref x_trial, .ref x_plan, .ref x_orders, .ref x_unanswered, .int 0, .int 0, .int (-1)])), (x_current, .inr (7, [.int 0, .int 0, .int 0, .int 0, .int 0, .int 0, .int 0, .int 0, .ref t0, .ref t1, .ref t2, .ref t3, .ref t4, .ref t5, .ref t6, .ref t7, .ref t8, .ref t9]))] s.heap.size = A at hD ⊢
  have hA : ∀ q : Nat, s.heap.size ≤ q → A q := fun q h => by rw [← hAe]; exact Or.inr h
  have hS : va_S A s.heap s.heap [] := va_S.rf
  have hP : va_P (dC, dI) vwCl [(h0, .inr (8, [.ref x_tape, .ref x_reader, .ref x_current, .ref x_images, .ref x_kept, .ref x_slots, .ref x_diary, .ref x_base, .ref x_trial, .ref x_plan, .ref x_orders, .ref x_unanswered, .int 0, .int 0, .int (-1)])), (x_current, .inr (7, [.int 0, .int 0, .int 0, .int 0, .int 0, .int 0, .int 0, .int 0, .ref t0, .ref t1, .ref t2, .ref t3, .ref t4, .ref t5, .ref t6, .ref t7, .ref t8, .ref t9]))] s.heap := hP
  have hl := lv_entry ([.ref h0, .int a]) (n := 3) (Nat.le_of_ble_eq_true rfl)
  rw [lg_entry_eq]
  generalize (lg_sl ([.ref h0, .int a]) ++ List.replicate (3 - (lg_sl ([.ref h0, .int a])).length) Slot.unset).toArray = ls at hl ⊢
  have hl : lv_has ls 3 [(0, .ref h0), (1, .int a)] := hl
  refine lv_aload_n hx hb dX8_law_0 rfl (lv_at hl 0 rfl) ?_
  have hPc := hP.sub (ws' := [(h0, .inr (8, [.ref x_tape, .ref x_reader, .ref x_current, .ref x_images, .ref x_kept, .ref x_slots, .ref x_diary, .ref x_base, .ref x_trial, .ref x_plan, .ref x_orders, .ref x_unanswered, .int 0, .int 0, .int (-1)])), (x_current, .inr (7, [.int 0, .int 0, .int 0, .int 0, .int 0, .int 0, .int 0, .int 0, .ref t0, .ref t1, .ref t2, .ref t3, .ref t4, .ref t5, .ref t6, .ref t7, .ref t8, .ref t9]))]) [0, 1] rfl
  have hDc := hD.sub (ws' := [(h0, .inr (8, [.ref x_tape, .ref x_reader, .ref x_current, .ref x_images, .ref x_kept, .ref x_slots, .ref x_diary, .ref x_base, .ref x_trial, .ref x_plan, .ref x_orders, .ref x_unanswered, .int 0, .int 0, .int (-1)])), (x_current, .inr (7, [.int 0, .int 0, .int 0, .int 0, .int 0, .int 0, .int 0, .int 0, .ref t0, .ref t1, .ref t2, .ref t3, .ref t4, .ref t5, .ref t6, .ref t7, .ref t8, .ref t9]))]) [0, 1] (by decide) rfl
  have hKc := hK.sub (tys' := []) [] rfl
  have hFc := va_free (wc := [(h0, .inr (8, [.ref x_tape, .ref x_reader, .ref x_current, .ref x_images, .ref x_kept, .ref x_slots, .ref x_diary, .ref x_base, .ref x_trial, .ref x_plan, .ref x_orders, .ref x_unanswered, .int 0, .int 0, .int (-1)])), (x_current, .inr (7, [.int 0, .int 0, .int 0, .int 0, .int 0, .int 0, .int 0, .int 0, .ref t0, .ref t1, .ref t2, .ref t3, .ref t4, .ref t5, .ref t6, .ref t7, .ref t8, .ref t9]))]) hD hS hA [0, 1] rfl
  refine va_calli (va_runV (As := []) (rest := []) ⟨hx, hb, hml, hown, hts⟩ (c_noTown l dC dI s.heap.size h0 x_tape x_reader x_current x_images x_kept x_slots x_diary x_base x_trial x_plan x_orders x_unanswered t0 t1 t2 t3 t4 t5 t6 t7 t8 t9 ) (cwV 0 hts (goodV w_817 w_818 w_819 w_2 w_820) rfl rfl rfl hdV_X8_noTown ⟨Nat.le_of_ble_eq_true rfl, Nat.le_of_ble_eq_true rfl⟩) ⟨fun a U g mk q => by obtain ⟨q0, q1, qP, qK, qD⟩ := q; exact ⟨q0, q1, qP, va_K.moved (u := U) (U := U.calling g mk a) (Vm.Alike.refl U.vm) qK, qD⟩, va_recv hKc hPc (ci := 8) (q0 := 0) rfl rfl, fun U hU hW => ⟨rfl, by rw [hU], by rw [hU]; exact hPc, va_K.moved hW.alike hKc, hDc.weaken (fun _ _ _ _ => trivial)⟩⟩ rfl rfl hl.1 rfl (lv_room (Nat.le_of_ble_eq_true rfl)) dX8_law_1 ⟨Nat.le_of_ble_eq_true rfl, Nat.le_of_ble_eq_true rfl⟩) hS (fun q _ h => hFc q h) hFc (fun r_1 u t H1 locs ht hvm hw hB hz1 hk1 hS => ?_)
  obtain ⟨hP1, hK1, hD1⟩ := hB
  rw [ht] at hP1
  have hK1 := va_K.moved hvm.symm hK1
  obtain ⟨hP, hD⟩ := va_join (wr := []) (w1 := [(h0, .inr (8, [.ref x_tape, .ref x_reader, .ref x_current, .ref x_images, .ref x_kept, .ref x_slots, .ref x_diary, .ref x_base, .ref x_trial, .ref x_plan, .ref x_orders, .ref x_unanswered, .int 0, .int 0, .int (-1)])), (x_current, .inr (7, [.int 0, .int 0, .int 0, .int 0, .int 0, .int 0, .int 0, .int 0, .ref t0, .ref t1, .ref t2, .ref t3, .ref t4, .ref t5, .ref t6, .ref t7, .ref t8, .ref t9]))]) hP hD [0, 1] [] rfl rfl (by decide) (by decide) hk1 hFc hP1 hD1
  clear hPc hDc hKc hFc
  generalize H1 = H at hP hS ⊢
  have hP : va_P (dC, dI) vwCl [(h0, .inr (8, [.ref x_tape, .ref x_reader, .ref x_current, .ref x_images, .ref x_kept, .ref x_slots, .ref x_diary, .ref x_base, .ref x_trial, .ref x_plan, .ref x_orders, .ref x_unanswered, .int 0, .int 0, .int (-1)])), (x_current, .inr (7, [.int 0, .int 0, .int 0, .int 0, .int 0, .int 0, .int 0, .int 0, .ref t0, .ref t1, .ref t2, .ref t3, .ref t4, .ref t5, .ref t6, .ref t7, .ref t8, .ref t9]))] H := hP
  have hD : va_D A [(h0, .inr (8, [.ref x_tape, .ref x_reader, .ref x_current, .ref x_images, .ref x_kept, .ref x_slots, .ref x_diary, .ref x_base, .ref x_trial, .ref x_plan, .ref x_orders, .ref x_unanswered, .int 0, .int 0, .int (-1)])), (x_current, .inr (7, [.int 0, .int 0, .int 0, .int 0, .int 0, .int 0, .int 0, .int 0, .ref t0, .ref t1, .ref t2, .ref t3, .ref t4, .ref t5, .ref t6, .ref t7, .ref t8, .ref t9]))] := hD
  have hw : r_1 = 1 := hw
  subst hw
  refine lv_if_ne (tgt := 16) hx hb dX8_law_4 (by decide) (fun c_2 => ?_) (fun c_2 => absurd c_2 (by decide))
  refine lv_bipush (v := (-2)) hx hb dX8_law_16 (by decide) ?_
  exact W.iret (v := (-2)) hx hb hr (fun t ht hW => ⟨⟨(-2), (), rfl, rfl, trivial⟩, hS.F ht⟩) hS.2.2 dX8_law_18
set_option maxHeartbeats 4000000 in
set_option maxRecDepth 100000 in
theorem x_pile (l : Launch) (dC : Nat → ClassId) (dI : Nat → Nat → Nat) (sz : Nat) (h0 : Nat) (x_tape : Nat) (x_reader : Nat) (x_current : Nat) (x_images : Nat) (x_kept : Nat) (x_slots : Nat) (x_diary : Nat) (x_base : Nat) (x_trial : Nat) (x_plan : Nat) (x_orders : Nat) (x_unanswered : Nat) (t0 : Nat) (t1 : Nat) (t2 : Nat) (t3 : Nat) (t4 : Nat) (t5 : Nat) (t6 : Nat) (t7 : Nat) (t8 : Nat) (t9 : Nat) (a : Int32) (b : Int32)  : Met l yX8_pile (.code yX8_pile cX8_pile 3 (some .long) :: ALLW) ({ frames := 1, cells := 0, slots := 0, locals := 21 }) (va_Pc [.ref h0, .int a, .int b] (fun U => U.heap.size = sz ∧ va_P (dC, dI) vwCl [(h0, .inr (8, [.ref x_tape, .ref x_reader, .ref x_current, .ref x_images, .ref x_kept, .ref x_slots, .ref x_diary, .ref x_base, .ref x_trial, .ref x_plan, .ref x_orders, .ref x_unanswered, .int 0, .int 0, .int (-1)])), (x_current, .inr (7, [.int 0, .int 0, .int 0, .int 0, .int 0, .int 0, .int 0, .int 0, .ref t0, .ref t1, .ref t2, .ref t3, .ref t4, .ref t5, .ref t6, .ref t7, .ref t8, .ref t9]))] U.heap ∧ va_K (dC, dI) vwCl [] U ∧ va_D (fun _ => True) [(h0, .inr (8, [.ref x_tape, .ref x_reader, .ref x_current, .ref x_images, .ref x_kept, .ref x_slots, .ref x_diary, .ref x_base, .ref x_trial, .ref x_plan, .ref x_orders, .ref x_unanswered, .int 0, .int 0, .int (-1)])), (x_current, .inr (7, [.int 0, .int 0, .int 0, .int 0, .int 0, .int 0, .int 0, .int 0, .ref t0, .ref t1, .ref t2, .ref t3, .ref t4, .ref t5, .ref t6, .ref t7, .ref t8, .ref t9]))])) (va_Ql (fun (r : Int64) (_ : Unit) => r = (-2)) (fun (_ : Unit) (_ : State) => True) (va_A [(h0, .inr (8, [.ref x_tape, .ref x_reader, .ref x_current, .ref x_images, .ref x_kept, .ref x_slots, .ref x_diary, .ref x_base, .ref x_trial, .ref x_plan, .ref x_orders, .ref x_unanswered, .int 0, .int 0, .int (-1)])), (x_current, .inr (7, [.int 0, .int 0, .int 0, .int 0, .int 0, .int 0, .int 0, .int 0, .ref t0, .ref t1, .ref t2, .ref t3, .ref t4, .ref t5, .ref t6, .ref t7, .ref t8, .ref t9]))] sz)) 0 0 (va_A [(h0, .inr (8, [.ref x_tape, .ref x_reader, .ref x_current, .ref x_images, .ref x_kept, .ref x_slots, .ref x_diary, .ref x_base, .ref x_trial, .ref x_plan, .ref x_orders, .ref x_unanswered, .int 0, .int 0, .int (-1)])), (x_current, .inr (7, [.int 0, .int 0, .int 0, .int 0, .int 0, .int 0, .int 0, .int 0, .ref t0, .ref t1, .ref t2, .ref t3, .ref t4, .ref t5, .ref t6, .ref t7, .ref t8, .ref t9]))] sz) := by
  refine Met.ofW (cc := cX8_pile) (maxL := 3) (ret := (some .long)) (by decide) rfl ?_
  intro p e s m args below meth c s₁ B hml hv
  obtain ⟨rfl, hsz, hP, hK, hD0⟩ := hv
  have hx := B.exec
  have hb := B.bytes
  have hr := B.returns
  have hts0 := atoms_spec (ws := (.code yX8_pile cX8_pile 3 (some .long) :: ALLW)) B.pre
  have hts := fun (w : Cond) (h : w ∈ ALLW) => hts0 w (List.mem_cons_of_mem _ h)
  have hown : s.vm.findClass RX8 = some m.cls := findClass_of_methodNamed B.named
  have hlocks := B.notSynchronized
  subst hsz
  have hD := hD0.self (sz := s.heap.size)
  generalize hAe : va_A [(h0, .inr (8, [.ref x_tape, .ref x_reader, .ref x_current, .ref x_images, .ref x_kept, .ref x_slots, .ref x_diary, .ref x_base, .ref x_trial, .ref x_plan, .ref x_orders, .ref x_unanswered, .int 0, .int 0, .int (-1)])), (x_current, .inr (7, [.int 0, .int 0, .int 0, .int 0, .int 0, .int 0, .int 0, .int 0, .ref t0, .ref t1, .ref t2, .ref t3, .ref t4, .ref t5, .ref t6, .ref t7, .ref t8, .ref t9]))] s.heap.size = A at hD ⊢
  have hA : ∀ q : Nat, s.heap.size ≤ q → A q := fun q h => by rw [← hAe]; exact Or.inr h
  have hS : va_S A s.heap s.heap [] := va_S.rf
  have hP : va_P (dC, dI) vwCl [(h0, .inr (8, [.ref x_tape, .ref x_reader, .ref x_current, .ref x_images, .ref x_kept, .ref x_slots, .ref x_diary, .ref x_base, .ref x_trial, .ref x_plan, .ref x_orders, .ref x_unanswered, .int 0, .int 0, .int (-1)])), (x_current, .inr (7, [.int 0, .int 0, .int 0, .int 0, .int 0, .int 0, .int 0, .int 0, .ref t0, .ref t1, .ref t2, .ref t3, .ref t4, .ref t5, .ref t6, .ref t7, .ref t8, .ref t9]))] s.heap := hP
  have hl := lv_entry ([.ref h0, .int a, .int b]) (n := 3) (Nat.le_of_ble_eq_true rfl)
  rw [lg_entry_eq]
  generalize (lg_sl ([.ref h0, .int a, .int b]) ++ List.replicate (3 - (lg_sl ([.ref h0, .int a, .int b])).length) Slot.unset).toArray = ls at hl ⊢
  have hl : lv_has ls 3 [(0, .ref h0), (1, .int a), (2, .int b)] := hl
  refine lv_aload_n hx hb dX8_pile_0 rfl (lv_at hl 0 rfl) ?_
  refine va_get (D := (dC, dI)) (ci := 8) (v := .ref x_current) (C := RX8) (T := TX8) (N := 15) hx hb hts inA8 hown hK hP 0 rfl rfl 2 (by decide) (hts _ w_24) (fun _ h9 => h9) rfl dX8_pile_1 ?_
  refine lv_iload_n hx hb dX8_pile_4 rfl (lv_at hl 1 rfl) ?_
  have hPc := hP.sub (ws' := [(x_current, .inr (7, [.int 0, .int 0, .int 0, .int 0, .int 0, .int 0, .int 0, .int 0, .ref t0, .ref t1, .ref t2, .ref t3, .ref t4, .ref t5, .ref t6, .ref t7, .ref t8, .ref t9]))]) [1] rfl
  have hDc := hD.sub (ws' := [(x_current, .inr (7, [.int 0, .int 0, .int 0, .int 0, .int 0, .int 0, .int 0, .int 0, .ref t0, .ref t1, .ref t2, .ref t3, .ref t4, .ref t5, .ref t6, .ref t7, .ref t8, .ref t9]))]) [1] (by decide) rfl
  have hKc := hK.sub (tys' := []) [] rfl
  have hFc := va_free (wc := [(x_current, .inr (7, [.int 0, .int 0, .int 0, .int 0, .int 0, .int 0, .int 0, .int 0, .ref t0, .ref t1, .ref t2, .ref t3, .ref t4, .ref t5, .ref t6, .ref t7, .ref t8, .ref t9]))]) hD hS hA [1] rfl
  refine va_calli (va_runV (As := [.int a]) (rest := []) ⟨hx, hb, hml, hown, hts⟩ (c_isPerson l dC dI s.heap.size x_current t0 t1 t2 t3 t4 t5 t6 t7 t8 t9 a ) (cwV 1 hts (goodV w_538 w_539 w_540 w_23 w_541) rfl rfl rfl hdV_X7_isPerson ⟨Nat.le_of_ble_eq_true rfl, Nat.le_of_ble_eq_true rfl⟩) ⟨fun a U g mk q => by obtain ⟨q0, q1, qP, qK, qD⟩ := q; exact ⟨q0, q1, qP, va_K.moved (u := U) (U := U.calling g mk a) (Vm.Alike.refl U.vm) qK, qD⟩, va_recv hKc hPc (ci := 7) (q0 := 0) rfl rfl, fun U hU hW => ⟨rfl, by rw [hU], by rw [hU]; exact hPc, va_K.moved hW.alike hKc, hDc.weaken (fun _ _ _ _ => trivial)⟩⟩ rfl rfl hl.1 rfl (lv_room (Nat.le_of_ble_eq_true rfl)) dX8_pile_5 ⟨Nat.le_of_ble_eq_true rfl, Nat.le_of_ble_eq_true rfl⟩) hS (fun q _ h => hFc q h) hFc (fun r_1 u t H1 locs ht hvm hw hB hz1 hk1 hS => ?_)
  obtain ⟨hP1, hK1, hD1⟩ := hB
  rw [ht] at hP1
  have hK1 := va_K.moved hvm.symm hK1
  obtain ⟨hP, hD⟩ := va_join (wr := [(h0, .inr (8, [.ref x_tape, .ref x_reader, .ref x_current, .ref x_images, .ref x_kept, .ref x_slots, .ref x_diary, .ref x_base, .ref x_trial, .ref x_plan, .ref x_orders, .ref x_unanswered, .int 0, .int 0, .int (-1)]))]) (w1 := [(x_current, .inr (7, [.int 0, .int 0, .int 0, .int 0, .int 0, .int 0, .int 0, .int 0, .ref t0, .ref t1, .ref t2, .ref t3, .ref t4, .ref t5, .ref t6, .ref t7, .ref t8, .ref t9]))]) hP hD [1] [0] rfl rfl (by decide) (by decide) hk1 hFc hP1 hD1
  clear hPc hDc hKc hFc
  generalize H1 = H at hP hS ⊢
  have hP : va_P (dC, dI) vwCl [(h0, .inr (8, [.ref x_tape, .ref x_reader, .ref x_current, .ref x_images, .ref x_kept, .ref x_slots, .ref x_diary, .ref x_base, .ref x_trial, .ref x_plan, .ref x_orders, .ref x_unanswered, .int 0, .int 0, .int (-1)])), (x_current, .inr (7, [.int 0, .int 0, .int 0, .int 0, .int 0, .int 0, .int 0, .int 0, .ref t0, .ref t1, .ref t2, .ref t3, .ref t4, .ref t5, .ref t6, .ref t7, .ref t8, .ref t9]))] H := hP
  have hD : va_D A [(h0, .inr (8, [.ref x_tape, .ref x_reader, .ref x_current, .ref x_images, .ref x_kept, .ref x_slots, .ref x_diary, .ref x_base, .ref x_trial, .ref x_plan, .ref x_orders, .ref x_unanswered, .int 0, .int 0, .int (-1)])), (x_current, .inr (7, [.int 0, .int 0, .int 0, .int 0, .int 0, .int 0, .int 0, .int 0, .ref t0, .ref t1, .ref t2, .ref t3, .ref t4, .ref t5, .ref t6, .ref t7, .ref t8, .ref t9]))] := hD
  have hw : r_1 = 0 := hw
  subst hw
  refine lv_if_eq (tgt := 22) hx hb dX8_pile_8 (by decide) (fun c_2 => ?_) (fun c_2 => absurd (by decide) c_2)
  refine lv_ldc2 hx hb hown (hts _ w_869) dX8_pile_22 ?_
  exact W.lret (v := (-2)) hx hb hr (fun t ht hW => ⟨⟨(-2), (), rfl, rfl, trivial⟩, hS.F ht⟩) hS.2.2 dX8_pile_25
set_option maxHeartbeats 4000000 in
set_option maxRecDepth 100000 in
theorem x_idle (l : Launch) (dC : Nat → ClassId) (dI : Nat → Nat → Nat) (sz : Nat) (h0 : Nat) (x_tape : Nat) (x_reader : Nat) (x_current : Nat) (x_images : Nat) (x_kept : Nat) (x_slots : Nat) (x_diary : Nat) (x_base : Nat) (x_trial : Nat) (x_plan : Nat) (x_orders : Nat) (x_unanswered : Nat) (t0 : Nat) (t1 : Nat) (t2 : Nat) (t3 : Nat) (t4 : Nat) (t5 : Nat) (t6 : Nat) (t7 : Nat) (t8 : Nat) (t9 : Nat) (a : Int32) (b : Int32)  : Met l yX8_idle (.code yX8_idle cX8_idle 3 (some .int) :: ALLW) ({ frames := 1, cells := 0, slots := 0, locals := 21 }) (va_Pc [.ref h0, .int a, .int b] (fun U => U.heap.size = sz ∧ va_P (dC, dI) vwCl [(h0, .inr (8, [.ref x_tape, .ref x_reader, .ref x_current, .ref x_images, .ref x_kept, .ref x_slots, .ref x_diary, .ref x_base, .ref x_trial, .ref x_plan, .ref x_orders, .ref x_unanswered, .int 0, .int 0, .int (-1)])), (x_current, .inr (7, [.int 0, .int 0, .int 0, .int 0, .int 0, .int 0, .int 0, .int 0, .ref t0, .ref t1, .ref t2, .ref t3, .ref t4, .ref t5, .ref t6, .ref t7, .ref t8, .ref t9]))] U.heap ∧ va_K (dC, dI) vwCl [] U ∧ va_D (fun _ => True) [(h0, .inr (8, [.ref x_tape, .ref x_reader, .ref x_current, .ref x_images, .ref x_kept, .ref x_slots, .ref x_diary, .ref x_base, .ref x_trial, .ref x_plan, .ref x_orders, .ref x_unanswered, .int 0, .int 0, .int (-1)])), (x_current, .inr (7, [.int 0, .int 0, .int 0, .int 0, .int 0, .int 0, .int 0, .int 0, .ref t0, .ref t1, .ref t2, .ref t3, .ref t4, .ref t5, .ref t6, .ref t7, .ref t8, .ref t9]))])) (va_Qi (fun (r : Int32) (_ : Unit) => r = (-2)) (fun (_ : Unit) (_ : State) => True) (va_A [(h0, .inr (8, [.ref x_tape, .ref x_reader, .ref x_current, .ref x_images, .ref x_kept, .ref x_slots, .ref x_diary, .ref x_base, .ref x_trial, .ref x_plan, .ref x_orders, .ref x_unanswered, .int 0, .int 0, .int (-1)])), (x_current, .inr (7, [.int 0, .int 0, .int 0, .int 0, .int 0, .int 0, .int 0, .int 0, .ref t0, .ref t1, .ref t2, .ref t3, .ref t4, .ref t5, .ref t6, .ref t7, .ref t8, .ref t9]))] sz)) 0 0 (va_A [(h0, .inr (8, [.ref x_tape, .ref x_reader, .ref x_current, .ref x_images, .ref x_kept, .ref x_slots, .ref x_diary, .ref x_base, .ref x_trial, .ref x_plan, .ref x_orders, .ref x_unanswered, .int 0, .int 0, .int (-1)])), (x_current, .inr (7, [.int 0, .int 0, .int 0, .int 0, .int 0, .int 0, .int 0, .int 0, .ref t0, .ref t1, .ref t2, .ref t3, .ref t4, .ref t5, .ref t6, .ref t7, .ref t8, .ref t9]))] sz) := by
  refine Met.ofW (cc := cX8_idle) (maxL := 3) (ret := (some .int)) (by decide) rfl ?_
  intro p e s m args below meth c s₁ B hml hv
  obtain ⟨rfl, hsz, hP, hK, hD0⟩ := hv
  have hx := B.exec
  have hb := B.bytes
  have hr := B.returns
  have hts0 := atoms_spec (ws := (.code yX8_idle cX8_idle 3 (some .int) :: ALLW)) B.pre
  have hts := fun (w : Cond) (h : w ∈ ALLW) => hts0 w (List.mem_cons_of_mem _ h)
  have hown : s.vm.findClass RX8 = some m.cls := findClass_of_methodNamed B.named
  have hlocks := B.notSynchronized
  subst hsz
  have hD := hD0.self (sz := s.heap.size)
  generalize hAe : va_A [(h0, .inr (8, [.ref x_tape, .ref x_reader, .ref x_current, .ref x_images, .ref x_kept, .ref x_slots, .ref x_diary, .ref x_base, .ref x_trial, .ref x_plan, .ref x_orders, .ref x_unanswered, .int 0, .int 0, .int (-1)])), (x_current, .inr (7, [.int 0, .int 0, .int 0, .int 0, .int 0, .int 0, .int 0, .int 0, .ref t0, .ref t1, .ref t2, .ref t3, .ref t4, .ref t5, .ref t6, .ref t7, .ref t8, .ref t9]))] s.heap.size = A at hD ⊢
  have hA : ∀ q : Nat, s.heap.size ≤ q → A q := fun q h => by rw [← hAe]; exact Or.inr h
  have hS : va_S A s.heap s.heap [] := va_S.rf
  have hP : va_P (dC, dI) vwCl [(h0, .inr (8, [.ref x_tape, .ref x_reader, .ref x_current, .ref x_images, .ref x_kept, .ref x_slots, .ref x_diary, .ref x_base, .ref x_trial, .ref x_plan, .ref x_orders, .ref x_unanswered, .int 0, .int 0, .int (-1)])), (x_current, .inr (7, [.int 0, .int 0, .int 0, .int 0, .int 0, .int 0, .int 0, .int 0, .ref t0, .ref t1, .ref t2, .ref t3, .ref t4, .ref t5, .ref t6, .ref t7, .ref t8, .ref t9]))] s.heap := hP
  have hl := lv_entry ([.ref h0, .int a, .int b]) (n := 3) (Nat.le_of_ble_eq_true rfl)
  rw [lg_entry_eq]
  generalize (lg_sl ([.ref h0, .int a, .int b]) ++ List.replicate (3 - (lg_sl ([.ref h0, .int a, .int b])).length) Slot.unset).toArray = ls at hl ⊢
  have hl : lv_has ls 3 [(0, .ref h0), (1, .int a), (2, .int b)] := hl
  refine lv_aload_n hx hb dX8_idle_0 rfl (lv_at hl 0 rfl) ?_
  refine va_get (D := (dC, dI)) (ci := 8) (v := .ref x_current) (C := RX8) (T := TX8) (N := 15) hx hb hts inA8 hown hK hP 0 rfl rfl 2 (by decide) (hts _ w_24) (fun _ h9 => h9) rfl dX8_idle_1 ?_
  refine lv_iload_n hx hb dX8_idle_4 rfl (lv_at hl 1 rfl) ?_
  have hPc := hP.sub (ws' := [(x_current, .inr (7, [.int 0, .int 0, .int 0, .int 0, .int 0, .int 0, .int 0, .int 0, .ref t0, .ref t1, .ref t2, .ref t3, .ref t4, .ref t5, .ref t6, .ref t7, .ref t8, .ref t9]))]) [1] rfl
  have hDc := hD.sub (ws' := [(x_current, .inr (7, [.int 0, .int 0, .int 0, .int 0, .int 0, .int 0, .int 0, .int 0, .ref t0, .ref t1, .ref t2, .ref t3, .ref t4, .ref t5, .ref t6, .ref t7, .ref t8, .ref t9]))]) [1] (by decide) rfl
  have hKc := hK.sub (tys' := []) [] rfl
  have hFc := va_free (wc := [(x_current, .inr (7, [.int 0, .int 0, .int 0, .int 0, .int 0, .int 0, .int 0, .int 0, .ref t0, .ref t1, .ref t2, .ref t3, .ref t4, .ref t5, .ref t6, .ref t7, .ref t8, .ref t9]))]) hD hS hA [1] rfl
  refine va_calli (va_runV (As := [.int a]) (rest := []) ⟨hx, hb, hml, hown, hts⟩ (c_isPerson l dC dI s.heap.size x_current t0 t1 t2 t3 t4 t5 t6 t7 t8 t9 a ) (cwV 1 hts (goodV w_538 w_539 w_540 w_23 w_541) rfl rfl rfl hdV_X7_isPerson ⟨Nat.le_of_ble_eq_true rfl, Nat.le_of_ble_eq_true rfl⟩) ⟨fun a U g mk q => by obtain ⟨q0, q1, qP, qK, qD⟩ := q; exact ⟨q0, q1, qP, va_K.moved (u := U) (U := U.calling g mk a) (Vm.Alike.refl U.vm) qK, qD⟩, va_recv hKc hPc (ci := 7) (q0 := 0) rfl rfl, fun U hU hW => ⟨rfl, by rw [hU], by rw [hU]; exact hPc, va_K.moved hW.alike hKc, hDc.weaken (fun _ _ _ _ => trivial)⟩⟩ rfl rfl hl.1 rfl (lv_room (Nat.le_of_ble_eq_true rfl)) dX8_idle_5 ⟨Nat.le_of_ble_eq_true rfl, Nat.le_of_ble_eq_true rfl⟩) hS (fun q _ h => hFc q h) hFc (fun r_1 u t H1 locs ht hvm hw hB hz1 hk1 hS => ?_)
  obtain ⟨hP1, hK1, hD1⟩ := hB
  rw [ht] at hP1
  have hK1 := va_K.moved hvm.symm hK1
  obtain ⟨hP, hD⟩ := va_join (wr := [(h0, .inr (8, [.ref x_tape, .ref x_reader, .ref x_current, .ref x_images, .ref x_kept, .ref x_slots, .ref x_diary, .ref x_base, .ref x_trial, .ref x_plan, .ref x_orders, .ref x_unanswered, .int 0, .int 0, .int (-1)]))]) (w1 := [(x_current, .inr (7, [.int 0, .int 0, .int 0, .int 0, .int 0, .int 0, .int 0, .int 0, .ref t0, .ref t1, .ref t2, .ref t3, .ref t4, .ref t5, .ref t6, .ref t7, .ref t8, .ref t9]))]) hP hD [1] [0] rfl rfl (by decide) (by decide) hk1 hFc hP1 hD1
  clear hPc hDc hKc hFc
  generalize H1 = H at hP hS ⊢
  have hP : va_P (dC, dI) vwCl [(h0, .inr (8, [.ref x_tape, .ref x_reader, .ref x_current, .ref x_images, .ref x_kept, .ref x_slots, .ref x_diary, .ref x_base, .ref x_trial, .ref x_plan, .ref x_orders, .ref x_unanswered, .int 0, .int 0, .int (-1)])), (x_current, .inr (7, [.int 0, .int 0, .int 0, .int 0, .int 0, .int 0, .int 0, .int 0, .ref t0, .ref t1, .ref t2, .ref t3, .ref t4, .ref t5, .ref t6, .ref t7, .ref t8, .ref t9]))] H := hP
  have hD : va_D A [(h0, .inr (8, [.ref x_tape, .ref x_reader, .ref x_current, .ref x_images, .ref x_kept, .ref x_slots, .ref x_diary, .ref x_base, .ref x_trial, .ref x_plan, .ref x_orders, .ref x_unanswered, .int 0, .int 0, .int (-1)])), (x_current, .inr (7, [.int 0, .int 0, .int 0, .int 0, .int 0, .int 0, .int 0, .int 0, .ref t0, .ref t1, .ref t2, .ref t3, .ref t4, .ref t5, .ref t6, .ref t7, .ref t8, .ref t9]))] := hD
  have hw : r_1 = 0 := hw
  subst hw
  refine lv_if_eq (tgt := 22) hx hb dX8_idle_8 (by decide) (fun c_2 => ?_) (fun c_2 => absurd (by decide) c_2)
  refine lv_bipush (v := (-2)) hx hb dX8_idle_22 (by decide) ?_
  exact W.iret (v := (-2)) hx hb hr (fun t ht hW => ⟨⟨(-2), (), rfl, rfl, trivial⟩, hS.F ht⟩) hS.2.2 dX8_idle_24
set_option maxHeartbeats 4000000 in
set_option maxRecDepth 100000 in
theorem x_waits (l : Launch) (dC : Nat → ClassId) (dI : Nat → Nat → Nat) (sz : Nat) (h0 : Nat) (x_tape : Nat) (x_reader : Nat) (x_current : Nat) (x_images : Nat) (x_kept : Nat) (x_slots : Nat) (x_diary : Nat) (x_base : Nat) (x_trial : Nat) (x_plan : Nat) (x_orders : Nat) (x_unanswered : Nat) (t0 : Nat) (t1 : Nat) (t2 : Nat) (t3 : Nat) (t4 : Nat) (t5 : Nat) (t6 : Nat) (t7 : Nat) (t8 : Nat) (t9 : Nat) (a : Int32) (b : Int32)  : Met l yX8_waits (.code yX8_waits cX8_waits 3 (some .int) :: ALLW) ({ frames := 1, cells := 0, slots := 0, locals := 21 }) (va_Pc [.ref h0, .int a, .int b] (fun U => U.heap.size = sz ∧ va_P (dC, dI) vwCl [(h0, .inr (8, [.ref x_tape, .ref x_reader, .ref x_current, .ref x_images, .ref x_kept, .ref x_slots, .ref x_diary, .ref x_base, .ref x_trial, .ref x_plan, .ref x_orders, .ref x_unanswered, .int 0, .int 0, .int (-1)])), (x_current, .inr (7, [.int 0, .int 0, .int 0, .int 0, .int 0, .int 0, .int 0, .int 0, .ref t0, .ref t1, .ref t2, .ref t3, .ref t4, .ref t5, .ref t6, .ref t7, .ref t8, .ref t9]))] U.heap ∧ va_K (dC, dI) vwCl [] U ∧ va_D (fun _ => True) [(h0, .inr (8, [.ref x_tape, .ref x_reader, .ref x_current, .ref x_images, .ref x_kept, .ref x_slots, .ref x_diary, .ref x_base, .ref x_trial, .ref x_plan, .ref x_orders, .ref x_unanswered, .int 0, .int 0, .int (-1)])), (x_current, .inr (7, [.int 0, .int 0, .int 0, .int 0, .int 0, .int 0, .int 0, .int 0, .ref t0, .ref t1, .ref t2, .ref t3, .ref t4, .ref t5, .ref t6, .ref t7, .ref t8, .ref t9]))])) (va_Qi (fun (r : Int32) (_ : Unit) => r = (-2)) (fun (_ : Unit) (_ : State) => True) (va_A [(h0, .inr (8, [.ref x_tape, .ref x_reader, .ref x_current, .ref x_images, .ref x_kept, .ref x_slots, .ref x_diary, .ref x_base, .ref x_trial, .ref x_plan, .ref x_orders, .ref x_unanswered, .int 0, .int 0, .int (-1)])), (x_current, .inr (7, [.int 0, .int 0, .int 0, .int 0, .int 0, .int 0, .int 0, .int 0, .ref t0, .ref t1, .ref t2, .ref t3, .ref t4, .ref t5, .ref t6, .ref t7, .ref t8, .ref t9]))] sz)) 0 0 (va_A [(h0, .inr (8, [.ref x_tape, .ref x_reader, .ref x_current, .ref x_images, .ref x_kept, .ref x_slots, .ref x_diary, .ref x_base, .ref x_trial, .ref x_plan, .ref x_orders, .ref x_unanswered, .int 0, .int 0, .int (-1)])), (x_current, .inr (7, [.int 0, .int 0, .int 0, .int 0, .int 0, .int 0, .int 0, .int 0, .ref t0, .ref t1, .ref t2, .ref t3, .ref t4, .ref t5, .ref t6, .ref t7, .ref t8, .ref t9]))] sz) := by
  refine Met.ofW (cc := cX8_waits) (maxL := 3) (ret := (some .int)) (by decide) rfl ?_
  intro p e s m args below meth c s₁ B hml hv
  obtain ⟨rfl, hsz, hP, hK, hD0⟩ := hv
  have hx := B.exec
  have hb := B.bytes
  have hr := B.returns
  have hts0 := atoms_spec (ws := (.code yX8_waits cX8_waits 3 (some .int) :: ALLW)) B.pre
  have hts := fun (w : Cond) (h : w ∈ ALLW) => hts0 w (List.mem_cons_of_mem _ h)
  have hown : s.vm.findClass RX8 = some m.cls := findClass_of_methodNamed B.named
  have hlocks := B.notSynchronized
  subst hsz
  have hD := hD0.self (sz := s.heap.size)
  generalize hAe : va_A [(h0, .inr (8, [.ref x_tape, .ref x_reader, .ref x_current, .ref x_images, .ref x_kept, .ref x_slots, .ref x_diary, .ref x_base, .ref x_trial, .ref x_plan, .ref x_orders, .ref x_unanswered, .int 0, .int 0, .int (-1)])), (x_current, .inr (7, [.int 0, .int 0, .int 0, .int 0, .int 0, .int 0, .int 0, .int 0, .ref t0, .ref t1, .ref t2, .ref t3, .ref t4, .ref t5, .ref t6, .ref t7, .ref t8, .ref t9]))] s.heap.size = A at hD ⊢
  have hA : ∀ q : Nat, s.heap.size ≤ q → A q := fun q h => by rw [← hAe]; exact Or.inr h
  have hS : va_S A s.heap s.heap [] := va_S.rf
  have hP : va_P (dC, dI) vwCl [(h0, .inr (8, [.ref x_tape, .ref x_reader, .ref x_current, .ref x_images, .ref x_kept, .ref x_slots, .ref x_diary, .ref x_base, .ref x_trial, .ref x_plan, .ref x_orders, .ref x_unanswered, .int 0, .int 0, .int (-1)])), (x_current, .inr (7, [.int 0, .int 0, .int 0, .int 0, .int 0, .int 0, .int 0, .int 0, .ref t0, .ref t1, .ref t2, .ref t3, .ref t4, .ref t5, .ref t6, .ref t7, .ref t8, .ref t9]))] s.heap := hP
  have hl := lv_entry ([.ref h0, .int a, .int b]) (n := 3) (Nat.le_of_ble_eq_true rfl)
  rw [lg_entry_eq]
  generalize (lg_sl ([.ref h0, .int a, .int b]) ++ List.replicate (3 - (lg_sl ([.ref h0, .int a, .int b])).length) Slot.unset).toArray = ls at hl ⊢
  have hl : lv_has ls 3 [(0, .ref h0), (1, .int a), (2, .int b)] := hl
  refine lv_aload_n hx hb dX8_waits_0 rfl (lv_at hl 0 rfl) ?_
  refine va_get (D := (dC, dI)) (ci := 8) (v := .ref x_current) (C := RX8) (T := TX8) (N := 15) hx hb hts inA8 hown hK hP 0 rfl rfl 2 (by decide) (hts _ w_24) (fun _ h9 => h9) rfl dX8_waits_1 ?_
  refine lv_iload_n hx hb dX8_waits_4 rfl (lv_at hl 1 rfl) ?_
  have hPc := hP.sub (ws' := [(x_current, .inr (7, [.int 0, .int 0, .int 0, .int 0, .int 0, .int 0, .int 0, .int 0, .ref t0, .ref t1, .ref t2, .ref t3, .ref t4, .ref t5, .ref t6, .ref t7, .ref t8, .ref t9]))]) [1] rfl
  have hDc := hD.sub (ws' := [(x_current, .inr (7, [.int 0, .int 0, .int 0, .int 0, .int 0, .int 0, .int 0, .int 0, .ref t0, .ref t1, .ref t2, .ref t3, .ref t4, .ref t5, .ref t6, .ref t7, .ref t8, .ref t9]))]) [1] (by decide) rfl
  have hKc := hK.sub (tys' := []) [] rfl
  have hFc := va_free (wc := [(x_current, .inr (7, [.int 0, .int 0, .int 0, .int 0, .int 0, .int 0, .int 0, .int 0, .ref t0, .ref t1, .ref t2, .ref t3, .ref t4, .ref t5, .ref t6, .ref t7, .ref t8, .ref t9]))]) hD hS hA [1] rfl
  refine va_calli (va_runV (As := [.int a]) (rest := []) ⟨hx, hb, hml, hown, hts⟩ (c_isPerson l dC dI s.heap.size x_current t0 t1 t2 t3 t4 t5 t6 t7 t8 t9 a ) (cwV 1 hts (goodV w_538 w_539 w_540 w_23 w_541) rfl rfl rfl hdV_X7_isPerson ⟨Nat.le_of_ble_eq_true rfl, Nat.le_of_ble_eq_true rfl⟩) ⟨fun a U g mk q => by obtain ⟨q0, q1, qP, qK, qD⟩ := q; exact ⟨q0, q1, qP, va_K.moved (u := U) (U := U.calling g mk a) (Vm.Alike.refl U.vm) qK, qD⟩, va_recv hKc hPc (ci := 7) (q0 := 0) rfl rfl, fun U hU hW => ⟨rfl, by rw [hU], by rw [hU]; exact hPc, va_K.moved hW.alike hKc, hDc.weaken (fun _ _ _ _ => trivial)⟩⟩ rfl rfl hl.1 rfl (lv_room (Nat.le_of_ble_eq_true rfl)) dX8_waits_5 ⟨Nat.le_of_ble_eq_true rfl, Nat.le_of_ble_eq_true rfl⟩) hS (fun q _ h => hFc q h) hFc (fun r_1 u t H1 locs ht hvm hw hB hz1 hk1 hS => ?_)
  obtain ⟨hP1, hK1, hD1⟩ := hB
  rw [ht] at hP1
  have hK1 := va_K.moved hvm.symm hK1
  obtain ⟨hP, hD⟩ := va_join (wr := [(h0, .inr (8, [.ref x_tape, .ref x_reader, .ref x_current, .ref x_images, .ref x_kept, .ref x_slots, .ref x_diary, .ref x_base, .ref x_trial, .ref x_plan, .ref x_orders, .ref x_unanswered, .int 0, .int 0, .int (-1)]))]) (w1 := [(x_current, .inr (7, [.int 0, .int 0, .int 0, .int 0, .int 0, .int 0, .int 0, .int 0, .ref t0, .ref t1, .ref t2, .ref t3, .ref t4, .ref t5, .ref t6, .ref t7, .ref t8, .ref t9]))]) hP hD [1] [0] rfl rfl (by decide) (by decide) hk1 hFc hP1 hD1
  clear hPc hDc hKc hFc
  generalize H1 = H at hP hS ⊢
  have hP : va_P (dC, dI) vwCl [(h0, .inr (8, [.ref x_tape, .ref x_reader, .ref x_current, .ref x_images, .ref x_kept, .ref x_slots, .ref x_diary, .ref x_base, .ref x_trial, .ref x_plan, .ref x_orders, .ref x_unanswered, .int 0, .int 0, .int (-1)])), (x_current, .inr (7, [.int 0, .int 0, .int 0, .int 0, .int 0, .int 0, .int 0, .int 0, .ref t0, .ref t1, .ref t2, .ref t3, .ref t4, .ref t5, .ref t6, .ref t7, .ref t8, .ref t9]))] H := hP
  have hD : va_D A [(h0, .inr (8, [.ref x_tape, .ref x_reader, .ref x_current, .ref x_images, .ref x_kept, .ref x_slots, .ref x_diary, .ref x_base, .ref x_trial, .ref x_plan, .ref x_orders, .ref x_unanswered, .int 0, .int 0, .int (-1)])), (x_current, .inr (7, [.int 0, .int 0, .int 0, .int 0, .int 0, .int 0, .int 0, .int 0, .ref t0, .ref t1, .ref t2, .ref t3, .ref t4, .ref t5, .ref t6, .ref t7, .ref t8, .ref t9]))] := hD
  have hw : r_1 = 0 := hw
  subst hw
  refine lv_if_eq (tgt := 22) hx hb dX8_waits_8 (by decide) (fun c_2 => ?_) (fun c_2 => absurd (by decide) c_2)
  refine lv_bipush (v := (-2)) hx hb dX8_waits_22 (by decide) ?_
  exact W.iret (v := (-2)) hx hb hr (fun t ht hW => ⟨⟨(-2), (), rfl, rfl, trivial⟩, hS.F ht⟩) hS.2.2 dX8_waits_24
set_option maxHeartbeats 4000000 in
set_option maxRecDepth 100000 in
theorem x_top (l : Launch) (dC : Nat → ClassId) (dI : Nat → Nat → Nat) (sz : Nat) (h0 : Nat) (x_tape : Nat) (x_reader : Nat) (x_current : Nat) (x_images : Nat) (x_kept : Nat) (x_slots : Nat) (x_diary : Nat) (x_base : Nat) (x_trial : Nat) (x_plan : Nat) (x_orders : Nat) (x_unanswered : Nat) (t0 : Nat) (t1 : Nat) (t2 : Nat) (t3 : Nat) (t4 : Nat) (t5 : Nat) (t6 : Nat) (t7 : Nat) (t8 : Nat) (t9 : Nat) (a : Int32) (b : Int32)  : Met l yX8_top (.code yX8_top cX8_top 8 (some .int) :: ALLW) ({ frames := 1, cells := 0, slots := 0, locals := 21 }) (va_Pc [.ref h0, .int a, .int b] (fun U => U.heap.size = sz ∧ va_P (dC, dI) vwCl [(h0, .inr (8, [.ref x_tape, .ref x_reader, .ref x_current, .ref x_images, .ref x_kept, .ref x_slots, .ref x_diary, .ref x_base, .ref x_trial, .ref x_plan, .ref x_orders, .ref x_unanswered, .int 0, .int 0, .int (-1)])), (x_current, .inr (7, [.int 0, .int 0, .int 0, .int 0, .int 0, .int 0, .int 0, .int 0, .ref t0, .ref t1, .ref t2, .ref t3, .ref t4, .ref t5, .ref t6, .ref t7, .ref t8, .ref t9]))] U.heap ∧ va_K (dC, dI) vwCl [] U ∧ va_D (fun _ => True) [(h0, .inr (8, [.ref x_tape, .ref x_reader, .ref x_current, .ref x_images, .ref x_kept, .ref x_slots, .ref x_diary, .ref x_base, .ref x_trial, .ref x_plan, .ref x_orders, .ref x_unanswered, .int 0, .int 0, .int (-1)])), (x_current, .inr (7, [.int 0, .int 0, .int 0, .int 0, .int 0, .int 0, .int 0, .int 0, .ref t0, .ref t1, .ref t2, .ref t3, .ref t4, .ref t5, .ref t6, .ref t7, .ref t8, .ref t9]))])) (va_Qi (fun (r : Int32) (_ : Unit) => r = (-2)) (fun (_ : Unit) (_ : State) => True) (va_A [(h0, .inr (8, [.ref x_tape, .ref x_reader, .ref x_current, .ref x_images, .ref x_kept, .ref x_slots, .ref x_diary, .ref x_base, .ref x_trial, .ref x_plan, .ref x_orders, .ref x_unanswered, .int 0, .int 0, .int (-1)])), (x_current, .inr (7, [.int 0, .int 0, .int 0, .int 0, .int 0, .int 0, .int 0, .int 0, .ref t0, .ref t1, .ref t2, .ref t3, .ref t4, .ref t5, .ref t6, .ref t7, .ref t8, .ref t9]))] sz)) 0 0 (va_A [(h0, .inr (8, [.ref x_tape, .ref x_reader, .ref x_current, .ref x_images, .ref x_kept, .ref x_slots, .ref x_diary, .ref x_base, .ref x_trial, .ref x_plan, .ref x_orders, .ref x_unanswered, .int 0, .int 0, .int (-1)])), (x_current, .inr (7, [.int 0, .int 0, .int 0, .int 0, .int 0, .int 0, .int 0, .int 0, .ref t0, .ref t1, .ref t2, .ref t3, .ref t4, .ref t5, .ref t6, .ref t7, .ref t8, .ref t9]))] sz) := by
  refine Met.ofW (cc := cX8_top) (maxL := 8) (ret := (some .int)) (by decide) rfl ?_
  intro p e s m args below meth c s₁ B hml hv
  obtain ⟨rfl, hsz, hP, hK, hD0⟩ := hv
  have hx := B.exec
  have hb := B.bytes
  have hr := B.returns
  have hts0 := atoms_spec (ws := (.code yX8_top cX8_top 8 (some .int) :: ALLW)) B.pre
  have hts := fun (w : Cond) (h : w ∈ ALLW) => hts0 w (List.mem_cons_of_mem _ h)
  have hown : s.vm.findClass RX8 = some m.cls := findClass_of_methodNamed B.named
  have hlocks := B.notSynchronized
  subst hsz
  have hD := hD0.self (sz := s.heap.size)
  generalize hAe : va_A [(h0, .inr (8, [.ref x_tape, .ref x_reader, .ref x_current, .ref x_images, .ref x_kept, .ref x_slots, .ref x_diary, .ref x_base, .ref x_trial, .ref x_plan, .ref x_orders, .ref x_unanswered, .int 0, .int 0, .int (-1)])), (x_current, .inr (7, [.int 0, .int 0, .int 0, .int 0, .int 0, .int 0, .int 0, .int 0, .ref t0, .ref t1, .ref t2, .ref t3, .ref t4, .ref t5, .ref t6, .ref t7, .ref t8, .ref t9]))] s.heap.size = A at hD ⊢
  have hA : ∀ q : Nat, s.heap.size ≤ q → A q := fun q h => by rw [← hAe]; exact Or.inr h
  have hS : va_S A s.heap s.heap [] := va_S.rf
  have hP : va_P (dC, dI) vwCl [(h0, .inr (8, [.ref x_tape, .ref x_reader, .ref x_current, .ref x_images, .ref x_kept, .ref x_slots, .ref x_diary, .ref x_base, .ref x_trial, .ref x_plan, .ref x_orders, .ref x_unanswered, .int 0, .int 0, .int (-1)])), (x_current, .inr (7, [.int 0, .int 0, .int 0, .int 0, .int 0, .int 0, .int 0, .int 0, .ref t0, .ref t1, .ref t2, .ref t3, .ref t4, .ref t5, .ref t6, .ref t7, .ref t8, .ref t9]))] s.heap := hP
  have hl := lv_entry ([.ref h0, .int a, .int b]) (n := 8) (Nat.le_of_ble_eq_true rfl)
  rw [lg_entry_eq]
  generalize (lg_sl ([.ref h0, .int a, .int b]) ++ List.replicate (8 - (lg_sl ([.ref h0, .int a, .int b])).length) Slot.unset).toArray = ls at hl ⊢
  have hl : lv_has ls 8 [(0, .ref h0), (1, .int a), (2, .int b)] := hl
  refine lv_aload_n hx hb dX8_top_0 rfl (lv_at hl 0 rfl) ?_
  refine va_get (D := (dC, dI)) (ci := 8) (v := .ref x_current) (C := RX8) (T := TX8) (N := 15) hx hb hts inA8 hown hK hP 0 rfl rfl 2 (by decide) (hts _ w_24) (fun _ h9 => h9) rfl dX8_top_1 ?_
  refine lv_iload_n hx hb dX8_top_4 rfl (lv_at hl 1 rfl) ?_
  have hPc := hP.sub (ws' := [(x_current, .inr (7, [.int 0, .int 0, .int 0, .int 0, .int 0, .int 0, .int 0, .int 0, .ref t0, .ref t1, .ref t2, .ref t3, .ref t4, .ref t5, .ref t6, .ref t7, .ref t8, .ref t9]))]) [1] rfl
  have hDc := hD.sub (ws' := [(x_current, .inr (7, [.int 0, .int 0, .int 0, .int 0, .int 0, .int 0, .int 0, .int 0, .ref t0, .ref t1, .ref t2, .ref t3, .ref t4, .ref t5, .ref t6, .ref t7, .ref t8, .ref t9]))]) [1] (by decide) rfl
  have hKc := hK.sub (tys' := []) [] rfl
  have hFc := va_free (wc := [(x_current, .inr (7, [.int 0, .int 0, .int 0, .int 0, .int 0, .int 0, .int 0, .int 0, .ref t0, .ref t1, .ref t2, .ref t3, .ref t4, .ref t5, .ref t6, .ref t7, .ref t8, .ref t9]))]) hD hS hA [1] rfl
  refine va_calli (va_runV (As := [.int a]) (rest := []) ⟨hx, hb, hml, hown, hts⟩ (c_isPerson l dC dI s.heap.size x_current t0 t1 t2 t3 t4 t5 t6 t7 t8 t9 a ) (cwV 1 hts (goodV w_538 w_539 w_540 w_23 w_541) rfl rfl rfl hdV_X7_isPerson ⟨Nat.le_of_ble_eq_true rfl, Nat.le_of_ble_eq_true rfl⟩) ⟨fun a U g mk q => by obtain ⟨q0, q1, qP, qK, qD⟩ := q; exact ⟨q0, q1, qP, va_K.moved (u := U) (U := U.calling g mk a) (Vm.Alike.refl U.vm) qK, qD⟩, va_recv hKc hPc (ci := 7) (q0 := 0) rfl rfl, fun U hU hW => ⟨rfl, by rw [hU], by rw [hU]; exact hPc, va_K.moved hW.alike hKc, hDc.weaken (fun _ _ _ _ => trivial)⟩⟩ rfl rfl hl.1 rfl (lv_room (Nat.le_of_ble_eq_true rfl)) dX8_top_5 ⟨Nat.le_of_ble_eq_true rfl, Nat.le_of_ble_eq_true rfl⟩) hS (fun q _ h => hFc q h) hFc (fun r_1 u t H1 locs ht hvm hw hB hz1 hk1 hS => ?_)
  obtain ⟨hP1, hK1, hD1⟩ := hB
  rw [ht] at hP1
  have hK1 := va_K.moved hvm.symm hK1
  obtain ⟨hP, hD⟩ := va_join (wr := [(h0, .inr (8, [.ref x_tape, .ref x_reader, .ref x_current, .ref x_images, .ref x_kept, .ref x_slots, .ref x_diary, .ref x_base, .ref x_trial, .ref x_plan, .ref x_orders, .ref x_unanswered, .int 0, .int 0, .int (-1)]))]) (w1 := [(x_current, .inr (7, [.int 0, .int 0, .int 0, .int 0, .int 0, .int 0, .int 0, .int 0, .ref t0, .ref t1, .ref t2, .ref t3, .ref t4, .ref t5, .ref t6, .ref t7, .ref t8, .ref t9]))]) hP hD [1] [0] rfl rfl (by decide) (by decide) hk1 hFc hP1 hD1
  clear hPc hDc hKc hFc
  generalize H1 = H at hP hS ⊢
  have hP : va_P (dC, dI) vwCl [(h0, .inr (8, [.ref x_tape, .ref x_reader, .ref x_current, .ref x_images, .ref x_kept, .ref x_slots, .ref x_diary, .ref x_base, .ref x_trial, .ref x_plan, .ref x_orders, .ref x_unanswered, .int 0, .int 0, .int (-1)])), (x_current, .inr (7, [.int 0, .int 0, .int 0, .int 0, .int 0, .int 0, .int 0, .int 0, .ref t0, .ref t1, .ref t2, .ref t3, .ref t4, .ref t5, .ref t6, .ref t7, .ref t8, .ref t9]))] H := hP
  have hD : va_D A [(h0, .inr (8, [.ref x_tape, .ref x_reader, .ref x_current, .ref x_images, .ref x_kept, .ref x_slots, .ref x_diary, .ref x_base, .ref x_trial, .ref x_plan, .ref x_orders, .ref x_unanswered, .int 0, .int 0, .int (-1)])), (x_current, .inr (7, [.int 0, .int 0, .int 0, .int 0, .int 0, .int 0, .int 0, .int 0, .ref t0, .ref t1, .ref t2, .ref t3, .ref t4, .ref t5, .ref t6, .ref t7, .ref t8, .ref t9]))] := hD
  have hw : r_1 = 0 := hw
  subst hw
  refine lv_if_eq (tgt := 22) hx hb dX8_top_8 (by decide) (fun c_2 => ?_) (fun c_2 => absurd (by decide) c_2)
  refine lv_bipush (v := (-2)) hx hb dX8_top_22 (by decide) ?_
  exact W.iret (v := (-2)) hx hb hr (fun t ht hW => ⟨⟨(-2), (), rfl, rfl, trivial⟩, hS.F ht⟩) hS.2.2 dX8_top_24
set_option maxHeartbeats 4000000 in
set_option maxRecDepth 100000 in
theorem x_heard (l : Launch) (dC : Nat → ClassId) (dI : Nat → Nat → Nat) (sz : Nat) (h0 : Nat) (x_tape : Nat) (x_reader : Nat) (x_current : Nat) (x_images : Nat) (x_kept : Nat) (x_slots : Nat) (x_diary : Nat) (x_base : Nat) (x_trial : Nat) (x_plan : Nat) (x_orders : Nat) (x_unanswered : Nat) (t0 : Nat) (t1 : Nat) (t2 : Nat) (t3 : Nat) (t4 : Nat) (t5 : Nat) (t6 : Nat) (t7 : Nat) (t8 : Nat) (t9 : Nat) (a : Int32) (b : Int32)  : Met l yX8_heard (.code yX8_heard cX8_heard 3 (some .int) :: ALLW) ({ frames := 1, cells := 0, slots := 0, locals := 21 }) (va_Pc [.ref h0, .int a, .int b] (fun U => U.heap.size = sz ∧ va_P (dC, dI) vwCl [(h0, .inr (8, [.ref x_tape, .ref x_reader, .ref x_current, .ref x_images, .ref x_kept, .ref x_slots, .ref x_diary, .ref x_base, .ref x_trial, .ref x_plan, .ref x_orders, .ref x_unanswered, .int 0, .int 0, .int (-1)])), (x_current, .inr (7, [.int 0, .int 0, .int 0, .int 0, .int 0, .int 0, .int 0, .int 0, .ref t0, .ref t1, .ref t2, .ref t3, .ref t4, .ref t5, .ref t6, .ref t7, .ref t8, .ref t9]))] U.heap ∧ va_K (dC, dI) vwCl [] U ∧ va_D (fun _ => True) [(h0, .inr (8, [.ref x_tape, .ref x_reader, .ref x_current, .ref x_images, .ref x_kept, .ref x_slots, .ref x_diary, .ref x_base, .ref x_trial, .ref x_plan, .ref x_orders, .ref x_unanswered, .int 0, .int 0, .int (-1)])), (x_current, .inr (7, [.int 0, .int 0, .int 0, .int 0, .int 0, .int 0, .int 0, .int 0, .ref t0, .ref t1, .ref t2, .ref t3, .ref t4, .ref t5, .ref t6, .ref t7, .ref t8, .ref t9]))])) (va_Qi (fun (r : Int32) (_ : Unit) => r = (-2)) (fun (_ : Unit) (_ : State) => True) (va_A [(h0, .inr (8, [.ref x_tape, .ref x_reader, .ref x_current, .ref x_images, .ref x_kept, .ref x_slots, .ref x_diary, .ref x_base, .ref x_trial, .ref x_plan, .ref x_orders, .ref x_unanswered, .int 0, .int 0, .int (-1)])), (x_current, .inr (7, [.int 0, .int 0, .int 0, .int 0, .int 0, .int 0, .int 0, .int 0, .ref t0, .ref t1, .ref t2, .ref t3, .ref t4, .ref t5, .ref t6, .ref t7, .ref t8, .ref t9]))] sz)) 0 0 (va_A [(h0, .inr (8, [.ref x_tape, .ref x_reader, .ref x_current, .ref x_images, .ref x_kept, .ref x_slots, .ref x_diary, .ref x_base, .ref x_trial, .ref x_plan, .ref x_orders, .ref x_unanswered, .int 0, .int 0, .int (-1)])), (x_current, .inr (7, [.int 0, .int 0, .int 0, .int 0, .int 0, .int 0, .int 0, .int 0, .ref t0, .ref t1, .ref t2, .ref t3, .ref t4, .ref t5, .ref t6, .ref t7, .ref t8, .ref t9]))] sz) := by
  refine Met.ofW (cc := cX8_heard) (maxL := 3) (ret := (some .int)) (by decide) rfl ?_
  intro p e s m args below meth c s₁ B hml hv
  obtain ⟨rfl, hsz, hP, hK, hD0⟩ := hv
  have hx := B.exec
  have hb := B.bytes
  have hr := B.returns
  have hts0 := atoms_spec (ws := (.code yX8_heard cX8_heard 3 (some .int) :: ALLW)) B.pre
  have hts := fun (w : Cond) (h : w ∈ ALLW) => hts0 w (List.mem_cons_of_mem _ h)
  have hown : s.vm.findClass RX8 = some m.cls := findClass_of_methodNamed B.named
  have hlocks := B.notSynchronized
  subst hsz
  have hD := hD0.self (sz := s.heap.size)
  generalize hAe : va_A [(h0, .inr (8, [.ref x_tape, .ref x_reader, .ref x_current, .ref x_images, .ref x_kept, .ref x_slots, .ref x_diary, .ref x_base, .ref x_trial, .ref x_plan, .ref x_orders, .ref x_unanswered, .int 0, .int 0, .int (-1)])), (x_current, .inr (7, [.int 0, .int 0, .int 0, .int 0, .int 0, .int 0, .int 0, .int 0, .ref t0, .ref t1, .ref t2, .ref t3, .ref t4, .ref t5, .ref t6, .ref t7, .ref t8, .ref t9]))] s.heap.size = A at hD ⊢
  have hA : ∀ q : Nat, s.heap.size ≤ q → A q := fun q h => by rw [← hAe]; exact Or.inr h
  have hS : va_S A s.heap s.heap [] := va_S.rf
  have hP : va_P (dC, dI) vwCl [(h0, .inr (8, [.ref x_tape, .ref x_reader, .ref x_current, .ref x_images, .ref x_kept, .ref x_slots, .ref x_diary, .ref x_base, .ref x_trial, .ref x_plan, .ref x_orders, .ref x_unanswered, .int 0, .int 0, .int (-1)])), (x_current, .inr (7, [.int 0, .int 0, .int 0, .int 0, .int 0, .int 0, .int 0, .int 0, .ref t0, .ref t1, .ref t2, .ref t3, .ref t4, .ref t5, .ref t6, .ref t7, .ref t8, .ref t9]))] s.heap := hP
  have hl := lv_entry ([.ref h0, .int a, .int b]) (n := 3) (Nat.le_of_ble_eq_true rfl)
  rw [lg_entry_eq]
  generalize (lg_sl ([.ref h0, .int a, .int b]) ++ List.replicate (3 - (lg_sl ([.ref h0, .int a, .int b])).length) Slot.unset).toArray = ls at hl ⊢
  have hl : lv_has ls 3 [(0, .ref h0), (1, .int a), (2, .int b)] := hl
  refine lv_aload_n hx hb dX8_heard_0 rfl (lv_at hl 0 rfl) ?_
  refine va_get (D := (dC, dI)) (ci := 8) (v := .ref x_current) (C := RX8) (T := TX8) (N := 15) hx hb hts inA8 hown hK hP 0 rfl rfl 2 (by decide) (hts _ w_24) (fun _ h9 => h9) rfl dX8_heard_1 ?_
  refine lv_iload_n hx hb dX8_heard_4 rfl (lv_at hl 1 rfl) ?_
  have hPc := hP.sub (ws' := [(x_current, .inr (7, [.int 0, .int 0, .int 0, .int 0, .int 0, .int 0, .int 0, .int 0, .ref t0, .ref t1, .ref t2, .ref t3, .ref t4, .ref t5, .ref t6, .ref t7, .ref t8, .ref t9]))]) [1] rfl
  have hDc := hD.sub (ws' := [(x_current, .inr (7, [.int 0, .int 0, .int 0, .int 0, .int 0, .int 0, .int 0, .int 0, .ref t0, .ref t1, .ref t2, .ref t3, .ref t4, .ref t5, .ref t6, .ref t7, .ref t8, .ref t9]))]) [1] (by decide) rfl
  have hKc := hK.sub (tys' := []) [] rfl
  have hFc := va_free (wc := [(x_current, .inr (7, [.int 0, .int 0, .int 0, .int 0, .int 0, .int 0, .int 0, .int 0, .ref t0, .ref t1, .ref t2, .ref t3, .ref t4, .ref t5, .ref t6, .ref t7, .ref t8, .ref t9]))]) hD hS hA [1] rfl
  refine va_calli (va_runV (As := [.int a]) (rest := []) ⟨hx, hb, hml, hown, hts⟩ (c_isPerson l dC dI s.heap.size x_current t0 t1 t2 t3 t4 t5 t6 t7 t8 t9 a ) (cwV 1 hts (goodV w_538 w_539 w_540 w_23 w_541) rfl rfl rfl hdV_X7_isPerson ⟨Nat.le_of_ble_eq_true rfl, Nat.le_of_ble_eq_true rfl⟩) ⟨fun a U g mk q => by obtain ⟨q0, q1, qP, qK, qD⟩ := q; exact ⟨q0, q1, qP, va_K.moved (u := U) (U := U.calling g mk a) (Vm.Alike.refl U.vm) qK, qD⟩, va_recv hKc hPc (ci := 7) (q0 := 0) rfl rfl, fun U hU hW => ⟨rfl, by rw [hU], by rw [hU]; exact hPc, va_K.moved hW.alike hKc, hDc.weaken (fun _ _ _ _ => trivial)⟩⟩ rfl rfl hl.1 rfl (lv_room (Nat.le_of_ble_eq_true rfl)) dX8_heard_5 ⟨Nat.le_of_ble_eq_true rfl, Nat.le_of_ble_eq_true rfl⟩) hS (fun q _ h => hFc q h) hFc (fun r_1 u t H1 locs ht hvm hw hB hz1 hk1 hS => ?_)
  obtain ⟨hP1, hK1, hD1⟩ := hB
  rw [ht] at hP1
  have hK1 := va_K.moved hvm.symm hK1
  obtain ⟨hP, hD⟩ := va_join (wr := [(h0, .inr (8, [.ref x_tape, .ref x_reader, .ref x_current, .ref x_images, .ref x_kept, .ref x_slots, .ref x_diary, .ref x_base, .ref x_trial, .ref x_plan, .ref x_orders, .ref x_unanswered, .int 0, .int 0, .int (-1)]))]) (w1 := [(x_current, .inr (7, [.int 0, .int 0, .int 0, .int 0, .int 0, .int 0, .int 0, .int 0, .ref t0, .ref t1, .ref t2, .ref t3, .ref t4, .ref t5, .ref t6, .ref t7, .ref t8, .ref t9]))]) hP hD [1] [0] rfl rfl (by decide) (by decide) hk1 hFc hP1 hD1
  clear hPc hDc hKc hFc
  generalize H1 = H at hP hS ⊢
  have hP : va_P (dC, dI) vwCl [(h0, .inr (8, [.ref x_tape, .ref x_reader, .ref x_current, .ref x_images, .ref x_kept, .ref x_slots, .ref x_diary, .ref x_base, .ref x_trial, .ref x_plan, .ref x_orders, .ref x_unanswered, .int 0, .int 0, .int (-1)])), (x_current, .inr (7, [.int 0, .int 0, .int 0, .int 0, .int 0, .int 0, .int 0, .int 0, .ref t0, .ref t1, .ref t2, .ref t3, .ref t4, .ref t5, .ref t6, .ref t7, .ref t8, .ref t9]))] H := hP
  have hD : va_D A [(h0, .inr (8, [.ref x_tape, .ref x_reader, .ref x_current, .ref x_images, .ref x_kept, .ref x_slots, .ref x_diary, .ref x_base, .ref x_trial, .ref x_plan, .ref x_orders, .ref x_unanswered, .int 0, .int 0, .int (-1)])), (x_current, .inr (7, [.int 0, .int 0, .int 0, .int 0, .int 0, .int 0, .int 0, .int 0, .ref t0, .ref t1, .ref t2, .ref t3, .ref t4, .ref t5, .ref t6, .ref t7, .ref t8, .ref t9]))] := hD
  have hw : r_1 = 0 := hw
  subst hw
  refine lv_if_eq (tgt := 27) hx hb dX8_heard_8 (by decide) (fun c_2 => ?_) (fun c_2 => absurd (by decide) c_2)
  refine lv_bipush (v := (-2)) hx hb dX8_heard_27 (by decide) ?_
  exact W.iret (v := (-2)) hx hb hr (fun t ht hW => ⟨⟨(-2), (), rfl, rfl, trivial⟩, hS.F ht⟩) hS.2.2 dX8_heard_29
set_option maxHeartbeats 4000000 in
set_option maxRecDepth 100000 in
theorem x_stuck (l : Launch) (dC : Nat → ClassId) (dI : Nat → Nat → Nat) (sz : Nat) (h0 : Nat) (x_tape : Nat) (x_reader : Nat) (x_current : Nat) (x_images : Nat) (x_kept : Nat) (x_slots : Nat) (x_diary : Nat) (x_base : Nat) (x_trial : Nat) (x_plan : Nat) (x_orders : Nat) (x_unanswered : Nat) (t0 : Nat) (t1 : Nat) (t2 : Nat) (t3 : Nat) (t4 : Nat) (t5 : Nat) (t6 : Nat) (t7 : Nat) (t8 : Nat) (t9 : Nat)  : Met l yX8_stuck (.code yX8_stuck cX8_stuck 1 (some .int) :: ALLW) ({ frames := 1, cells := 0, slots := 0, locals := 20 }) (va_Pc [.ref h0] (fun U => U.heap.size = sz ∧ va_P (dC, dI) vwCl [(h0, .inr (8, [.ref x_tape, .ref x_reader, .ref x_current, .ref x_images, .ref x_kept, .ref x_slots, .ref x_diary, .ref x_base, .ref x_trial, .ref x_plan, .ref x_orders, .ref x_unanswered, .int 0, .int 0, .int (-1)])), (x_current, .inr (7, [.int 0, .int 0, .int 0, .int 0, .int 0, .int 0, .int 0, .int 0, .ref t0, .ref t1, .ref t2, .ref t3, .ref t4, .ref t5, .ref t6, .ref t7, .ref t8, .ref t9]))] U.heap ∧ va_K (dC, dI) vwCl [] U ∧ va_D (fun _ => True) [(h0, .inr (8, [.ref x_tape, .ref x_reader, .ref x_current, .ref x_images, .ref x_kept, .ref x_slots, .ref x_diary, .ref x_base, .ref x_trial, .ref x_plan, .ref x_orders, .ref x_unanswered, .int 0, .int 0, .int (-1)])), (x_current, .inr (7, [.int 0, .int 0, .int 0, .int 0, .int 0, .int 0, .int 0, .int 0, .ref t0, .ref t1, .ref t2, .ref t3, .ref t4, .ref t5, .ref t6, .ref t7, .ref t8, .ref t9]))])) (va_Qi (fun (r : Int32) (_ : Unit) => r = (-2)) (fun (_ : Unit) (_ : State) => True) (va_A [(h0, .inr (8, [.ref x_tape, .ref x_reader, .ref x_current, .ref x_images, .ref x_kept, .ref x_slots, .ref x_diary, .ref x_base, .ref x_trial, .ref x_plan, .ref x_orders, .ref x_unanswered, .int 0, .int 0, .int (-1)])), (x_current, .inr (7, [.int 0, .int 0, .int 0, .int 0, .int 0, .int 0, .int 0, .int 0, .ref t0, .ref t1, .ref t2, .ref t3, .ref t4, .ref t5, .ref t6, .ref t7, .ref t8, .ref t9]))] sz)) 0 0 (va_A [(h0, .inr (8, [.ref x_tape, .ref x_reader, .ref x_current, .ref x_images, .ref x_kept, .ref x_slots, .ref x_diary, .ref x_base, .ref x_trial, .ref x_plan, .ref x_orders, .ref x_unanswered, .int 0, .int 0, .int (-1)])), (x_current, .inr (7, [.int 0, .int 0, .int 0, .int 0, .int 0, .int 0, .int 0, .int 0, .ref t0, .ref t1, .ref t2, .ref t3, .ref t4, .ref t5, .ref t6, .ref t7, .ref t8, .ref t9]))] sz) := by
  refine Met.ofW (cc := cX8_stuck) (maxL := 1) (ret := (some .int)) (by decide) rfl ?_
  intro p e s m args below meth c s₁ B hml hv
  obtain ⟨rfl, hsz, hP, hK, hD0⟩ := hv
  have hx := B.exec
  have hb := B.bytes
  have hr := B.returns
  have hts0 := atoms_spec (ws := (.code yX8_stuck cX8_stuck 1 (some .int) :: ALLW)) B.pre
  have hts := fun (w : Cond) (h : w ∈ ALLW) => hts0 w (List.mem_cons_of_mem _ h)
  have hown : s.vm.findClass RX8 = some m.cls := findClass_of_methodNamed B.named
  have hlocks := B.notSynchronized
  subst hsz
  have hD := hD0.self (sz := s.heap.size)
  generalize hAe : va_A [(h0, .inr (8, [.ref x_tape, .ref x_reader, .ref x_current, .ref x_images, .ref x_kept, .ref x_slots, .ref x_diary, .ref x_base, .ref x_trial, .ref x_plan, .ref x_orders, .ref x_unanswered, .int 0, .int 0, .int (-1)])), (x_current, .inr (7, [.int 0, .int 0, .int 0, .int 0, .int 0, .int 0, .int 0, .int 0, .ref t0, .ref t1, .ref t2, .ref t3, .ref t4, .ref t5, .ref t6, .ref t7, .ref t8, .ref t9]))] s.heap.size = A at hD ⊢
  have hA : ∀ q : Nat, s.heap.size ≤ q → A q := fun q h => by rw [← hAe]; exact Or.inr h
  have hS : va_S A s.heap s.heap [] := va_S.rf
  have hP : va_P (dC, dI) vwCl [(h0, .inr (8, [.ref x_tape, .ref x_reader, .ref x_current, .ref x_images, .ref x_kept, .ref x_slots, .ref x_diary, .ref x_base, .ref x_trial, .ref x_plan, .ref x_orders, .ref x_unanswered, .int 0, .int 0, .int (-1)])), (x_current, .inr (7, [.int 0, .int 0, .int 0, .int 0, .int 0, .int 0, .int 0, .int 0, .ref t0, .ref t1, .ref t2, .ref t3, .ref t4, .ref t5, .ref t6, .ref t7, .ref t8, .ref t9]))] s.heap := hP
  have hl := lv_entry ([.ref h0]) (n := 1) (Nat.le_of_ble_eq_true rfl)
  rw [lg_entry_eq]
  generalize (lg_sl ([.ref h0]) ++ List.replicate (1 - (lg_sl ([.ref h0])).length) Slot.unset).toArray = ls at hl ⊢
  have hl : lv_has ls 1 [(0, .ref h0)] := hl
  refine lv_aload_n hx hb dX8_stuck_0 rfl (lv_at hl 0 rfl) ?_
  have hPc := hP.sub (ws' := [(h0, .inr (8, [.ref x_tape, .ref x_reader, .ref x_current, .ref x_images, .ref x_kept, .ref x_slots, .ref x_diary, .ref x_base, .ref x_trial, .ref x_plan, .ref x_orders, .ref x_unanswered, .int 0, .int 0, .int (-1)])), (x_current, .inr (7, [.int 0, .int 0, .int 0, .int 0, .int 0, .int 0, .int 0, .int 0, .ref t0, .ref t1, .ref t2, .ref t3, .ref t4, .ref t5, .ref t6, .ref t7, .ref t8, .ref t9]))]) [0, 1] rfl
  have hDc := hD.sub (ws' := [(h0, .inr (8, [.ref x_tape, .ref x_reader, .ref x_current, .ref x_images, .ref x_kept, .ref x_slots, .ref x_diary, .ref x_base, .ref x_trial, .ref x_plan, .ref x_orders, .ref x_unanswered, .int 0, .int 0, .int (-1)])), (x_current, .inr (7, [.int 0, .int 0, .int 0, .int 0, .int 0, .int 0, .int 0, .int 0, .ref t0, .ref t1, .ref t2, .ref t3, .ref t4, .ref t5, .ref t6, .ref t7, .ref t8, .ref t9]))]) [0, 1] (by decide) rfl
  have hKc := hK.sub (tys' := []) [] rfl
  have hFc := va_free (wc := [(h0, .inr (8, [.ref x_tape, .ref x_reader, .ref x_current, .ref x_images, .ref x_kept, .ref x_slots, .ref x_diary, .ref x_base, .ref x_trial, .ref x_plan, .ref x_orders, .ref x_unanswered, .int 0, .int 0, .int (-1)])), (x_current, .inr (7, [.int 0, .int 0, .int 0, .int 0, .int 0, .int 0, .int 0, .int 0, .ref t0, .ref t1, .ref t2, .ref t3, .ref t4, .ref t5, .ref t6, .ref t7, .ref t8, .ref t9]))]) hD hS hA [0, 1] rfl
  refine va_calli (va_runV (As := []) (rest := []) ⟨hx, hb, hml, hown, hts⟩ (c_noTown l dC dI s.heap.size h0 x_tape x_reader x_current x_images x_kept x_slots x_diary x_base x_trial x_plan x_orders x_unanswered t0 t1 t2 t3 t4 t5 t6 t7 t8 t9 ) (cwV 0 hts (goodV w_817 w_818 w_819 w_2 w_820) rfl rfl rfl hdV_X8_noTown ⟨Nat.le_of_ble_eq_true rfl, Nat.le_of_ble_eq_true rfl⟩) ⟨fun a U g mk q => by obtain ⟨q0, q1, qP, qK, qD⟩ := q; exact ⟨q0, q1, qP, va_K.moved (u := U) (U := U.calling g mk a) (Vm.Alike.refl U.vm) qK, qD⟩, va_recv hKc hPc (ci := 8) (q0 := 0) rfl rfl, fun U hU hW => ⟨rfl, by rw [hU], by rw [hU]; exact hPc, va_K.moved hW.alike hKc, hDc.weaken (fun _ _ _ _ => trivial)⟩⟩ rfl rfl hl.1 rfl (lv_room (Nat.le_of_ble_eq_true rfl)) dX8_stuck_1 ⟨Nat.le_of_ble_eq_true rfl, Nat.le_of_ble_eq_true rfl⟩) hS (fun q _ h => hFc q h) hFc (fun r_1 u t H1 locs ht hvm hw hB hz1 hk1 hS => ?_)
  obtain ⟨hP1, hK1, hD1⟩ := hB
  rw [ht] at hP1
  have hK1 := va_K.moved hvm.symm hK1
  obtain ⟨hP, hD⟩ := va_join (wr := []) (w1 := [(h0, .inr (8, [.ref x_tape, .ref x_reader, .ref x_current, .ref x_images, .ref x_kept, .ref x_slots, .ref x_diary, .ref x_base, .ref x_trial, .ref x_plan, .ref x_orders, .ref x_unanswered, .int 0, .int 0, .int (-1)])), (x_current, .inr (7, [.int 0, .int 0, .int 0, .int 0, .int 0, .int 0, .int 0, .int 0, .ref t0, .ref t1, .ref t2, .ref t3, .ref t4, .ref t5, .ref t6, .ref t7, .ref t8, .ref t9]))]) hP hD [0, 1] [] rfl rfl (by decide) (by decide) hk1 hFc hP1 hD1
  clear hPc hDc hKc hFc
  generalize H1 = H at hP hS ⊢
  have hP : va_P (dC, dI) vwCl [(h0, .inr (8, [.ref x_tape, .ref x_reader, .ref x_current, .ref x_images, .ref x_kept, .ref x_slots, .ref x_diary, .ref x_base, .ref x_trial, .ref x_plan, .ref x_orders, .ref x_unanswered, .int 0, .int 0, .int (-1)])), (x_current, .inr (7, [.int 0, .int 0, .int 0, .int 0, .int 0, .int 0, .int 0, .int 0, .ref t0, .ref t1, .ref t2, .ref t3, .ref t4, .ref t5, .ref t6, .ref t7, .ref t8, .ref t9]))] H := hP
  have hD : va_D A [(h0, .inr (8, [.ref x_tape, .ref x_reader, .ref x_current, .ref x_images, .ref x_kept, .ref x_slots, .ref x_diary, .ref x_base, .ref x_trial, .ref x_plan, .ref x_orders, .ref x_unanswered, .int 0, .int 0, .int (-1)])), (x_current, .inr (7, [.int 0, .int 0, .int 0, .int 0, .int 0, .int 0, .int 0, .int 0, .ref t0, .ref t1, .ref t2, .ref t3, .ref t4, .ref t5, .ref t6, .ref t7, .ref t8, .ref t9]))] := hD
  have hw : r_1 = 1 := hw
  subst hw
  refine lv_if_eq (tgt := 12) hx hb dX8_stuck_4 (by decide) (fun c_2 => absurd c_2 (by decide)) (fun c_2 => ?_)
  refine lv_bipush (v := (-2)) hx hb dX8_stuck_7 (by decide) ?_
  refine lv_goto (tgt := 19) hx hb dX8_stuck_9 (by decide) ?_
  exact W.iret (v := (-2)) hx hb hr (fun t ht hW => ⟨⟨(-2), (), rfl, rfl, trivial⟩, hS.F ht⟩) hS.2.2 dX8_stuck_19
set_option maxHeartbeats 4000000 in
set_option maxRecDepth 100000 in
theorem x_ring (l : Launch) (dC : Nat → ClassId) (dI : Nat → Nat → Nat) (sz : Nat) (h0 : Nat) (x_tape : Nat) (x_reader : Nat) (x_current : Nat) (x_images : Nat) (x_kept : Nat) (x_slots : Nat) (x_diary : Nat) (x_base : Nat) (x_trial : Nat) (x_plan : Nat) (x_orders : Nat) (x_unanswered : Nat) (t0 : Nat) (t1 : Nat) (t2 : Nat) (t3 : Nat) (t4 : Nat) (t5 : Nat) (t6 : Nat) (t7 : Nat) (t8 : Nat) (t9 : Nat) (a : Int32)  : Met l yX8_ring (.code yX8_ring cX8_ring 8 (some .int) :: ALLW) ({ frames := 1, cells := 0, slots := 0, locals := 20 }) (va_Pc [.ref h0, .int a] (fun U => U.heap.size = sz ∧ va_P (dC, dI) vwCl [(h0, .inr (8, [.ref x_tape, .ref x_reader, .ref x_current, .ref x_images, .ref x_kept, .ref x_slots, .ref x_diary, .ref x_base, .ref x_trial, .ref x_plan, .ref x_orders, .ref x_unanswered, .int 0, .int 0, .int (-1)])), (x_current, .inr (7, [.int 0, .int 0, .int 0, .int 0, .int 0, .int 0, .int 0, .int 0, .ref t0, .ref t1, .ref t2, .ref t3, .ref t4, .ref t5, .ref t6, .ref t7, .ref t8, .ref t9]))] U.heap ∧ va_K (dC, dI) vwCl [] U ∧ va_D (fun _ => True) [(h0, .inr (8, [.ref x_tape, .ref x_reader, .ref x_current, .ref x_images, .ref x_kept, .ref x_slots, .ref x_diary, .ref x_base, .ref x_trial, .ref x_plan, .ref x_orders, .ref x_unanswered, .int 0, .int 0, .int (-1)])), (x_current, .inr (7, [.int 0, .int 0, .int 0, .int 0, .int 0, .int 0, .int 0, .int 0, .ref t0, .ref t1, .ref t2, .ref t3, .ref t4, .ref t5, .ref t6, .ref t7, .ref t8, .ref t9]))])) (va_Qi (fun (r : Int32) (_ : Unit) => r = (-2)) (fun (_ : Unit) (_ : State) => True) (va_A [(h0, .inr (8, [.ref x_tape, .ref x_reader, .ref x_current, .ref x_images, .ref x_kept, .ref x_slots, .ref x_diary, .ref x_base, .ref x_trial, .ref x_plan, .ref x_orders, .ref x_unanswered, .int 0, .int 0, .int (-1)])), (x_current, .inr (7, [.int 0, .int 0, .int 0, .int 0, .int 0, .int 0, .int 0, .int 0, .ref t0, .ref t1, .ref t2, .ref t3, .ref t4, .ref t5, .ref t6, .ref t7, .ref t8, .ref t9]))] sz)) 0 0 (va_A [(h0, .inr (8, [.ref x_tape, .ref x_reader, .ref x_current, .ref x_images, .ref x_kept, .ref x_slots, .ref x_diary, .ref x_base, .ref x_trial, .ref x_plan, .ref x_orders, .ref x_unanswered, .int 0, .int 0, .int (-1)])), (x_current, .inr (7, [.int 0, .int 0, .int 0, .int 0, .int 0, .int 0, .int 0, .int 0, .ref t0, .ref t1, .ref t2, .ref t3, .ref t4, .ref t5, .ref t6, .ref t7, .ref t8, .ref t9]))] sz) := by
  refine Met.ofW (cc := cX8_ring) (maxL := 8) (ret := (some .int)) (by decide) rfl ?_
  intro p e s m args below meth c s₁ B hml hv
  obtain ⟨rfl, hsz, hP, hK, hD0⟩ := hv
  have hx := B.exec
  have hb := B.bytes
  have hr := B.returns
  have hts0 := atoms_spec (ws := (.code yX8_ring cX8_ring 8 (some .int) :: ALLW)) B.pre
  have hts := fun (w : Cond) (h : w ∈ ALLW) => hts0 w (List.mem_cons_of_mem _ h)
  have hown : s.vm.findClass RX8 = some m.cls := findClass_of_methodNamed B.named
  have hlocks := B.notSynchronized
  subst hsz
  have hD := hD0.self (sz := s.heap.size)
  generalize hAe : va_A [(h0, .inr (8, [.ref x_tape, .ref x_reader, .ref x_current, .ref x_images, .ref x_kept, .ref x_slots, .ref x_diary, .ref x_base, .ref x_trial, .ref x_plan, .ref x_orders, .ref x_unanswered, .int 0, .int 0, .int (-1)])), (x_current, .inr (7, [.int 0, .int 0, .int 0, .int 0, .int 0, .int 0, .int 0, .int 0, .ref t0, .ref t1, .ref t2, .ref t3, .ref t4, .ref t5, .ref t6, .ref t7, .ref t8, .ref t9]))] s.heap.size = A at hD ⊢
  have hA : ∀ q : Nat, s.heap.size ≤ q → A q := fun q h => by rw [← hAe]; exact Or.inr h
  have hS : va_S A s.heap s.heap [] := va_S.rf
  have hP : va_P (dC, dI) vwCl [(h0, .inr (8, [.ref x_tape, .ref x_reader, .ref x_current, .ref x_images, .ref x_kept, .ref x_slots, .ref x_diary, .ref x_base, .ref x_trial, .ref x_plan, .ref x_orders, .ref x_unanswered, .int 0, .int 0, .int (-1)])), (x_current, .inr (7, [.int 0, .int 0, .int 0, .int 0, .int 0, .int 0, .int 0, .int 0, .ref t0, .ref t1, .ref t2, .ref t3, .ref t4, .ref t5, .ref t6, .ref t7, .ref t8, .ref t9]))] s.heap := hP
  have hl := lv_entry ([.ref h0, .int a]) (n := 8) (Nat.le_of_ble_eq_true rfl)
  rw [lg_entry_eq]
  generalize (lg_sl ([.ref h0, .int a]) ++ List.replicate (8 - (lg_sl ([.ref h0, .int a])).length) Slot.unset).toArray = ls at hl ⊢
  have hl : lv_has ls 8 [(0, .ref h0), (1, .int a)] := hl
  refine lv_aload_n hx hb dX8_ring_0 rfl (lv_at hl 0 rfl) ?_
  have hPc := hP.sub (ws' := [(h0, .inr (8, [.ref x_tape, .ref x_reader, .ref x_current, .ref x_images, .ref x_kept, .ref x_slots, .ref x_diary, .ref x_base, .ref x_trial, .ref x_plan, .ref x_orders, .ref x_unanswered, .int 0, .int 0, .int (-1)])), (x_current, .inr (7, [.int 0, .int 0, .int 0, .int 0, .int 0, .int 0, .int 0, .int 0, .ref t0, .ref t1, .ref t2, .ref t3, .ref t4, .ref t5, .ref t6, .ref t7, .ref t8, .ref t9]))]) [0, 1] rfl
  have hDc := hD.sub (ws' := [(h0, .inr (8, [.ref x_tape, .ref x_reader, .ref x_current, .ref x_images, .ref x_kept, .ref x_slots, .ref x_diary, .ref x_base, .ref x_trial, .ref x_plan, .ref x_orders, .ref x_unanswered, .int 0, .int 0, .int (-1)])), (x_current, .inr (7, [.int 0, .int 0, .int 0, .int 0, .int 0, .int 0, .int 0, .int 0, .ref t0, .ref t1, .ref t2, .ref t3, .ref t4, .ref t5, .ref t6, .ref t7, .ref t8, .ref t9]))]) [0, 1] (by decide) rfl
  have hKc := hK.sub (tys' := []) [] rfl
  have hFc := va_free (wc := [(h0, .inr (8, [.ref x_tape, .ref x_reader, .ref x_current, .ref x_images, .ref x_kept, .ref x_slots, .ref x_diary, .ref x_base, .ref x_trial, .ref x_plan, .ref x_orders, .ref x_unanswered, .int 0, .int 0, .int (-1)])), (x_current, .inr (7, [.int 0, .int 0, .int 0, .int 0, .int 0, .int 0, .int 0, .int 0, .ref t0, .ref t1, .ref t2, .ref t3, .ref t4, .ref t5, .ref t6, .ref t7, .ref t8, .ref t9]))]) hD hS hA [0, 1] rfl
  refine va_calli (va_runV (As := []) (rest := []) ⟨hx, hb, hml, hown, hts⟩ (c_noTown l dC dI s.heap.size h0 x_tape x_reader x_current x_images x_kept x_slots x_diary x_base x_trial x_plan x_orders x_unanswered t0 t1 t2 t3 t4 t5 t6 t7 t8 t9 ) (cwV 0 hts (goodV w_817 w_818 w_819 w_2 w_820) rfl rfl rfl hdV_X8_noTown ⟨Nat.le_of_ble_eq_true rfl, Nat.le_of_ble_eq_true rfl⟩) ⟨fun a U g mk q => by obtain ⟨q0, q1, qP, qK, qD⟩ := q; exact ⟨q0, q1, qP, va_K.moved (u := U) (U := U.calling g mk a) (Vm.Alike.refl U.vm) qK, qD⟩, va_recv hKc hPc (ci := 8) (q0 := 0) rfl rfl, fun U hU hW => ⟨rfl, by rw [hU], by rw [hU]; exact hPc, va_K.moved hW.alike hKc, hDc.weaken (fun _ _ _ _ => trivial)⟩⟩ rfl rfl hl.1 rfl (lv_room (Nat.le_of_ble_eq_true rfl)) dX8_ring_1 ⟨Nat.le_of_ble_eq_true rfl, Nat.le_of_ble_eq_true rfl⟩) hS (fun q _ h => hFc q h) hFc (fun r_1 u t H1 locs ht hvm hw hB hz1 hk1 hS => ?_)
  obtain ⟨hP1, hK1, hD1⟩ := hB
  rw [ht] at hP1
  have hK1 := va_K.moved hvm.symm hK1
  obtain ⟨hP, hD⟩ := va_join (wr := []) (w1 := [(h0, .inr (8, [.ref x_tape, .ref x_reader, .ref x_current, .ref x_images, .ref x_kept, .ref x_slots, .ref x_diary, .ref x_base, .ref x_trial, .ref x_plan, .ref x_orders, .ref x_unanswered, .int 0, .int 0, .int (-1)])), (x_current, .inr (7, [.int 0, .int 0, .int 0, .int 0, .int 0, .int 0, .int 0, .int 0, .ref t0, .ref t1, .ref t2, .ref t3, .ref t4, .ref t5, .ref t6, .ref t7, .ref t8, .ref t9]))]) hP hD [0, 1] [] rfl rfl (by decide) (by decide) hk1 hFc hP1 hD1
  clear hPc hDc hKc hFc
  generalize H1 = H at hP hS ⊢
  have hP : va_P (dC, dI) vwCl [(h0, .inr (8, [.ref x_tape, .ref x_reader, .ref x_current, .ref x_images, .ref x_kept, .ref x_slots, .ref x_diary, .ref x_base, .ref x_trial, .ref x_plan, .ref x_orders, .ref x_unanswered, .int 0, .int 0, .int (-1)])), (x_current, .inr (7, [.int 0, .int 0, .int 0, .int 0, .int 0, .int 0, .int 0, .int 0, .ref t0, .ref t1, .ref t2, .ref t3, .ref t4, .ref t5, .ref t6, .ref t7, .ref t8, .ref t9]))] H := hP
  have hD : va_D A [(h0, .inr (8, [.ref x_tape, .ref x_reader, .ref x_current, .ref x_images, .ref x_kept, .ref x_slots, .ref x_diary, .ref x_base, .ref x_trial, .ref x_plan, .ref x_orders, .ref x_unanswered, .int 0, .int 0, .int (-1)])), (x_current, .inr (7, [.int 0, .int 0, .int 0, .int 0, .int 0, .int 0, .int 0, .int 0, .ref t0, .ref t1, .ref t2, .ref t3, .ref t4, .ref t5, .ref t6, .ref t7, .ref t8, .ref t9]))] := hD
  have hw : r_1 = 1 := hw
  subst hw
  refine lv_if_ne (tgt := 16) hx hb dX8_ring_4 (by decide) (fun c_2 => ?_) (fun c_2 => absurd c_2 (by decide))
  refine lv_bipush (v := (-2)) hx hb dX8_ring_16 (by decide) ?_
  exact W.iret (v := (-2)) hx hb hr (fun t ht hW => ⟨⟨(-2), (), rfl, rfl, trivial⟩, hS.F ht⟩) hS.2.2 dX8_ring_18
set_option maxHeartbeats 4000000 in
set_option maxRecDepth 100000 in
theorem x_worth (l : Launch) (dC : Nat → ClassId) (dI : Nat → Nat → Nat) (sz : Nat) (h0 : Nat) (x_tape : Nat) (x_reader : Nat) (x_current : Nat) (x_images : Nat) (x_kept : Nat) (x_slots : Nat) (x_diary : Nat) (x_base : Nat) (x_trial : Nat) (x_plan : Nat) (x_orders : Nat) (x_unanswered : Nat) (t0 : Nat) (t1 : Nat) (t2 : Nat) (t3 : Nat) (t4 : Nat) (t5 : Nat) (t6 : Nat) (t7 : Nat) (t8 : Nat) (t9 : Nat)  : Met l yX8_worth (.code yX8_worth cX8_worth 1 (some .int) :: ALLW) ({ frames := 1, cells := 0, slots := 0, locals := 20 }) (va_Pc [.ref h0] (fun U => U.heap.size = sz ∧ va_P (dC, dI) vwCl [(h0, .inr (8, [.ref x_tape, .ref x_reader, .ref x_current, .ref x_images, .ref x_kept, .ref x_slots, .ref x_diary, .ref x_base, .ref x_trial, .ref x_plan, .ref x_orders, .ref x_unanswered, .int 0, .int 0, .int (-1)])), (x_current, .inr (7, [.int 0, .int 0, .int 0, .int 0, .int 0, .int 0, .int 0, .int 0, .ref t0, .ref t1, .ref t2, .ref t3, .ref t4, .ref t5, .ref t6, .ref t7, .ref t8, .ref t9]))] U.heap ∧ va_K (dC, dI) vwCl [] U ∧ va_D (fun _ => True) [(h0, .inr (8, [.ref x_tape, .ref x_reader, .ref x_current, .ref x_images, .ref x_kept, .ref x_slots, .ref x_diary, .ref x_base, .ref x_trial, .ref x_plan, .ref x_orders, .ref x_unanswered, .int 0, .int 0, .int (-1)])), (x_current, .inr (7, [.int 0, .int 0, .int 0, .int 0, .int 0, .int 0, .int 0, .int 0, .ref t0, .ref t1, .ref t2, .ref t3, .ref t4, .ref t5, .ref t6, .ref t7, .ref t8, .ref t9]))])) (va_Qi (fun (r : Int32) (_ : Unit) => r = (-2)) (fun (_ : Unit) (_ : State) => True) (va_A [(h0, .inr (8, [.ref x_tape, .ref x_reader, .ref x_current, .ref x_images, .ref x_kept, .ref x_slots, .ref x_diary, .ref x_base, .ref x_trial, .ref x_plan, .ref x_orders, .ref x_unanswered, .int 0, .int 0, .int (-1)])), (x_current, .inr (7, [.int 0, .int 0, .int 0, .int 0, .int 0, .int 0, .int 0, .int 0, .ref t0, .ref t1, .ref t2, .ref t3, .ref t4, .ref t5, .ref t6, .ref t7, .ref t8, .ref t9]))] sz)) 0 0 (va_A [(h0, .inr (8, [.ref x_tape, .ref x_reader, .ref x_current, .ref x_images, .ref x_kept, .ref x_slots, .ref x_diary, .ref x_base, .ref x_trial, .ref x_plan, .ref x_orders, .ref x_unanswered, .int 0, .int 0, .int (-1)])), (x_current, .inr (7, [.int 0, .int 0, .int 0, .int 0, .int 0, .int 0, .int 0, .int 0, .ref t0, .ref t1, .ref t2, .ref t3, .ref t4, .ref t5, .ref t6, .ref t7, .ref t8, .ref t9]))] sz) := by
  refine Met.ofW (cc := cX8_worth) (maxL := 1) (ret := (some .int)) (by decide) rfl ?_
  intro p e s m args below meth c s₁ B hml hv
  obtain ⟨rfl, hsz, hP, hK, hD0⟩ := hv
  have hx := B.exec
  have hb := B.bytes
  have hr := B.returns
  have hts0 := atoms_spec (ws := (.code yX8_worth cX8_worth 1 (some .int) :: ALLW)) B.pre
  have hts := fun (w : Cond) (h : w ∈ ALLW) => hts0 w (List.mem_cons_of_mem _ h)
  have hown : s.vm.findClass RX8 = some m.cls := findClass_of_methodNamed B.named
  have hlocks := B.notSynchronized
  subst hsz
  have hD := hD0.self (sz := s.heap.size)
  generalize hAe : va_A [(h0, .inr (8, [.ref x_tape, .ref x_reader, .ref x_current, .ref x_images, .ref x_kept, .ref x_slots, .ref x_diary, .ref x_base, .ref x_trial, .ref x_plan, .ref x_orders, .ref x_unanswered, .int 0, .int 0, .int (-1)])), (x_current, .inr (7, [.int 0, .int 0, .int 0, .int 0, .int 0, .int 0, .int 0, .int 0, .ref t0, .ref t1, .ref t2, .ref t3, .ref t4, .ref t5, .ref t6, .ref t7, .ref t8, .ref t9]))] s.heap.size = A at hD ⊢
  have hA : ∀ q : Nat, s.heap.size ≤ q → A q := fun q h => by rw [← hAe]; exact Or.inr h
  have hS : va_S A s.heap s.heap [] := va_S.rf
  have hP : va_P (dC, dI) vwCl [(h0, .inr (8, [.ref x_tape, .ref x_reader, .ref x_current, .ref x_images, .ref x_kept, .ref x_slots, .ref x_diary, .ref x_base, .ref x_trial, .ref x_plan, .ref x_orders, .ref x_unanswered, .int 0, .int 0, .int (-1)])), (x_current, .inr (7, [.int 0, .int 0, .int 0, .int 0, .int 0, .int 0, .int 0, .int 0, .ref t0, .ref t1, .ref t2, .ref t3, .ref t4, .ref t5, .ref t6, .ref t7, .ref t8, .ref t9]))] s.heap := hP
  have hl := lv_entry ([.ref h0]) (n := 1) (Nat.le_of_ble_eq_true rfl)
  rw [lg_entry_eq]
  generalize (lg_sl ([.ref h0]) ++ List.replicate (1 - (lg_sl ([.ref h0])).length) Slot.unset).toArray = ls at hl ⊢
  have hl : lv_has ls 1 [(0, .ref h0)] := hl
  refine lv_aload_n hx hb dX8_worth_0 rfl (lv_at hl 0 rfl) ?_
  have hPc := hP.sub (ws' := [(h0, .inr (8, [.ref x_tape, .ref x_reader, .ref x_current, .ref x_images, .ref x_kept, .ref x_slots, .ref x_diary, .ref x_base, .ref x_trial, .ref x_plan, .ref x_orders, .ref x_unanswered, .int 0, .int 0, .int (-1)])), (x_current, .inr (7, [.int 0, .int 0, .int 0, .int 0, .int 0, .int 0, .int 0, .int 0, .ref t0, .ref t1, .ref t2, .ref t3, .ref t4, .ref t5, .ref t6, .ref t7, .ref t8, .ref t9]))]) [0, 1] rfl
  have hDc := hD.sub (ws' := [(h0, .inr (8, [.ref x_tape, .ref x_reader, .ref x_current, .ref x_images, .ref x_kept, .ref x_slots, .ref x_diary, .ref x_base, .ref x_trial, .ref x_plan, .ref x_orders, .ref x_unanswered, .int 0, .int 0, .int (-1)])), (x_current, .inr (7, [.int 0, .int 0, .int 0, .int 0, .int 0, .int 0, .int 0, .int 0, .ref t0, .ref t1, .ref t2, .ref t3, .ref t4, .ref t5, .ref t6, .ref t7, .ref t8, .ref t9]))]) [0, 1] (by decide) rfl
  have hKc := hK.sub (tys' := []) [] rfl
  have hFc := va_free (wc := [(h0, .inr (8, [.ref x_tape, .ref x_reader, .ref x_current, .ref x_images, .ref x_kept, .ref x_slots, .ref x_diary, .ref x_base, .ref x_trial, .ref x_plan, .ref x_orders, .ref x_unanswered, .int 0, .int 0, .int (-1)])), (x_current, .inr (7, [.int 0, .int 0, .int 0, .int 0, .int 0, .int 0, .int 0, .int 0, .ref t0, .ref t1, .ref t2, .ref t3, .ref t4, .ref t5, .ref t6, .ref t7, .ref t8, .ref t9]))]) hD hS hA [0, 1] rfl
  refine va_calli (va_runV (As := []) (rest := []) ⟨hx, hb, hml, hown, hts⟩ (c_noTown l dC dI s.heap.size h0 x_tape x_reader x_current x_images x_kept x_slots x_diary x_base x_trial x_plan x_orders x_unanswered t0 t1 t2 t3 t4 t5 t6 t7 t8 t9 ) (cwV 0 hts (goodV w_817 w_818 w_819 w_2 w_820) rfl rfl rfl hdV_X8_noTown ⟨Nat.le_of_ble_eq_true rfl, Nat.le_of_ble_eq_true rfl⟩) ⟨fun a U g mk q => by obtain ⟨q0, q1, qP, qK, qD⟩ := q; exact ⟨q0, q1, qP, va_K.moved (u := U) (U := U.calling g mk a) (Vm.Alike.refl U.vm) qK, qD⟩, va_recv hKc hPc (ci := 8) (q0 := 0) rfl rfl, fun U hU hW => ⟨rfl, by rw [hU], by rw [hU]; exact hPc, va_K.moved hW.alike hKc, hDc.weaken (fun _ _ _ _ => trivial)⟩⟩ rfl rfl hl.1 rfl (lv_room (Nat.le_of_ble_eq_true rfl)) dX8_worth_1 ⟨Nat.le_of_ble_eq_true rfl, Nat.le_of_ble_eq_true rfl⟩) hS (fun q _ h => hFc q h) hFc (fun r_1 u t H1 locs ht hvm hw hB hz1 hk1 hS => ?_)
  obtain ⟨hP1, hK1, hD1⟩ := hB
  rw [ht] at hP1
  have hK1 := va_K.moved hvm.symm hK1
  obtain ⟨hP, hD⟩ := va_join (wr := []) (w1 := [(h0, .inr (8, [.ref x_tape, .ref x_reader, .ref x_current, .ref x_images, .ref x_kept, .ref x_slots, .ref x_diary, .ref x_base, .ref x_trial, .ref x_plan, .ref x_orders, .ref x_unanswered, .int 0, .int 0, .int (-1)])), (x_current, .inr (7, [.int 0, .int 0, .int 0, .int 0, .int 0, .int 0, .int 0, .int 0, .ref t0, .ref t1, .ref t2, .ref t3, .ref t4, .ref t5, .ref t6, .ref t7, .ref t8, .ref t9]))]) hP hD [0, 1] [] rfl rfl (by decide) (by decide) hk1 hFc hP1 hD1
  clear hPc hDc hKc hFc
  generalize H1 = H at hP hS ⊢
  have hP : va_P (dC, dI) vwCl [(h0, .inr (8, [.ref x_tape, .ref x_reader, .ref x_current, .ref x_images, .ref x_kept, .ref x_slots, .ref x_diary, .ref x_base, .ref x_trial, .ref x_plan, .ref x_orders, .ref x_unanswered, .int 0, .int 0, .int (-1)])), (x_current, .inr (7, [.int 0, .int 0, .int 0, .int 0, .int 0, .int 0, .int 0, .int 0, .ref t0, .ref t1, .ref t2, .ref t3, .ref t4, .ref t5, .ref t6, .ref t7, .ref t8, .ref t9]))] H := hP
  have hD : va_D A [(h0, .inr (8, [.ref x_tape, .ref x_reader, .ref x_current, .ref x_images, .ref x_kept, .ref x_slots, .ref x_diary, .ref x_base, .ref x_trial, .ref x_plan, .ref x_orders, .ref x_unanswered, .int 0, .int 0, .int (-1)])), (x_current, .inr (7, [.int 0, .int 0, .int 0, .int 0, .int 0, .int 0, .int 0, .int 0, .ref t0, .ref t1, .ref t2, .ref t3, .ref t4, .ref t5, .ref t6, .ref t7, .ref t8, .ref t9]))] := hD
  have hw : r_1 = 1 := hw
  subst hw
  refine lv_if_eq (tgt := 12) hx hb dX8_worth_4 (by decide) (fun c_2 => absurd c_2 (by decide)) (fun c_2 => ?_)
  refine lv_bipush (v := (-2)) hx hb dX8_worth_7 (by decide) ?_
  refine lv_goto (tgt := 23) hx hb dX8_worth_9 (by decide) ?_
  exact W.iret (v := (-2)) hx hb hr (fun t ht hW => ⟨⟨(-2), (), rfl, rfl, trivial⟩, hS.F ht⟩) hS.2.2 dX8_worth_23
set_option maxHeartbeats 4000000 in
set_option maxRecDepth 100000 in
theorem x_late (l : Launch) (dC : Nat → ClassId) (dI : Nat → Nat → Nat) (sz : Nat) (h0 : Nat) (x_tape : Nat) (x_reader : Nat) (x_current : Nat) (x_images : Nat) (x_kept : Nat) (x_slots : Nat) (x_diary : Nat) (x_base : Nat) (x_trial : Nat) (x_plan : Nat) (x_orders : Nat) (x_unanswered : Nat) (t0 : Nat) (t1 : Nat) (t2 : Nat) (t3 : Nat) (t4 : Nat) (t5 : Nat) (t6 : Nat) (t7 : Nat) (t8 : Nat) (t9 : Nat) (a : Int32)  : Met l yX8_late (.code yX8_late cX8_late 4 (some .int) :: ALLW) ({ frames := 1, cells := 0, slots := 0, locals := 20 }) (va_Pc [.ref h0, .int a] (fun U => U.heap.size = sz ∧ va_P (dC, dI) vwCl [(h0, .inr (8, [.ref x_tape, .ref x_reader, .ref x_current, .ref x_images, .ref x_kept, .ref x_slots, .ref x_diary, .ref x_base, .ref x_trial, .ref x_plan, .ref x_orders, .ref x_unanswered, .int 0, .int 0, .int (-1)])), (x_current, .inr (7, [.int 0, .int 0, .int 0, .int 0, .int 0, .int 0, .int 0, .int 0, .ref t0, .ref t1, .ref t2, .ref t3, .ref t4, .ref t5, .ref t6, .ref t7, .ref t8, .ref t9]))] U.heap ∧ va_K (dC, dI) vwCl [] U ∧ va_D (fun _ => True) [(h0, .inr (8, [.ref x_tape, .ref x_reader, .ref x_current, .ref x_images, .ref x_kept, .ref x_slots, .ref x_diary, .ref x_base, .ref x_trial, .ref x_plan, .ref x_orders, .ref x_unanswered, .int 0, .int 0, .int (-1)])), (x_current, .inr (7, [.int 0, .int 0, .int 0, .int 0, .int 0, .int 0, .int 0, .int 0, .ref t0, .ref t1, .ref t2, .ref t3, .ref t4, .ref t5, .ref t6, .ref t7, .ref t8, .ref t9]))])) (va_Qi (fun (r : Int32) (_ : Unit) => r = (-2)) (fun (_ : Unit) (_ : State) => True) (va_A [(h0, .inr (8, [.ref x_tape, .ref x_reader, .ref x_current, .ref x_images, .ref x_kept, .ref x_slots, .ref x_diary, .ref x_base, .ref x_trial, .ref x_plan, .ref x_orders, .ref x_unanswered, .int 0, .int 0, .int (-1)])), (x_current, .inr (7, [.int 0, .int 0, .int 0, .int 0, .int 0, .int 0, .int 0, .int 0, .ref t0, .ref t1, .ref t2, .ref t3, .ref t4, .ref t5, .ref t6, .ref t7, .ref t8, .ref t9]))] sz)) 0 0 (va_A [(h0, .inr (8, [.ref x_tape, .ref x_reader, .ref x_current, .ref x_images, .ref x_kept, .ref x_slots, .ref x_diary, .ref x_base, .ref x_trial, .ref x_plan, .ref x_orders, .ref x_unanswered, .int 0, .int 0, .int (-1)])), (x_current, .inr (7, [.int 0, .int 0, .int 0, .int 0, .int 0, .int 0, .int 0, .int 0, .ref t0, .ref t1, .ref t2, .ref t3, .ref t4, .ref t5, .ref t6, .ref t7, .ref t8, .ref t9]))] sz) := by
  refine Met.ofW (cc := cX8_late) (maxL := 4) (ret := (some .int)) (by decide) rfl ?_
  intro p e s m args below meth c s₁ B hml hv
  obtain ⟨rfl, hsz, hP, hK, hD0⟩ := hv
  have hx := B.exec
  have hb := B.bytes
  have hr := B.returns
  have hts0 := atoms_spec (ws := (.code yX8_late cX8_late 4 (some .int) :: ALLW)) B.pre
  have hts := fun (w : Cond) (h : w ∈ ALLW) => hts0 w (List.mem_cons_of_mem _ h)
  have hown : s.vm.findClass RX8 = some m.cls := findClass_of_methodNamed B.named
  have hlocks := B.notSynchronized
  subst hsz
  have hD := hD0.self (sz := s.heap.size)
  generalize hAe : va_A [(h0, .inr (8, [.ref x_tape, .ref x_reader, .ref x_current, .ref x_images, .ref x_kept, .ref x_slots, .ref x_diary, .ref x_base, .ref x_trial, .ref x_plan, .ref x_orders, .ref x_unanswered, .int 0, .int 0, .int (-1)])), (x_current, .inr (7, [.int 0, .int 0, .int 0, .int 0, .int 0, .int 0, .int 0, .int 0, .ref t0, .ref t1, .ref t2, .ref t3, .ref t4, .ref t5, .ref t6, .ref t7, .ref t8, .ref t9]))] s.heap.size = A at hD ⊢
  have hA : ∀ q : Nat, s.heap.size ≤ q → A q := fun q h => by rw [← hAe]; exact Or.inr h
  have hS : va_S A s.heap s.heap [] := va_S.rf
  have hP : va_P (dC, dI) vwCl [(h0, .inr (8, [.ref x_tape, .ref x_reader, .ref x_current, .ref x_images, .ref x_kept, .ref x_slots, .ref x_diary, .ref x_base, .ref x_trial, .ref x_plan, .ref x_orders, .ref x_unanswered, .int 0, .int 0, .int (-1)])), (x_current, .inr (7, [.int 0, .int 0, .int 0, .int 0, .int 0, .int 0, .int 0, .int 0, .ref t0, .ref t1, .ref t2, .ref t3, .ref t4, .ref t5, .ref t6, .ref t7, .ref t8, .ref t9]))] s.heap := hP
  have hl := lv_entry ([.ref h0, .int a]) (n := 4) (Nat.le_of_ble_eq_true rfl)
  rw [lg_entry_eq]
  generalize (lg_sl ([.ref h0, .int a]) ++ List.replicate (4 - (lg_sl ([.ref h0, .int a])).length) Slot.unset).toArray = ls at hl ⊢
  have hl : lv_has ls 4 [(0, .ref h0), (1, .int a)] := hl
  refine lv_aload_n hx hb dX8_late_0 rfl (lv_at hl 0 rfl) ?_
  have hPc := hP.sub (ws' := [(h0, .inr (8, [.ref x_tape, .ref x_reader, .ref x_current, .ref x_images, .ref x_kept, .ref x_slots, .ref x_diary, .ref x_base, .ref x_trial, .ref x_plan, .ref x_orders, .ref x_unanswered, .int 0, .int 0, .int (-1)])), (x_current, .inr (7, [.int 0, .int 0, .int 0, .int 0, .int 0, .int 0, .int 0, .int 0, .ref t0, .ref t1, .ref t2, .ref t3, .ref t4, .ref t5, .ref t6, .ref t7, .ref t8, .ref t9]))]) [0, 1] rfl
  have hDc := hD.sub (ws' := [(h0, .inr (8, [.ref x_tape, .ref x_reader, .ref x_current, .ref x_images, .ref x_kept, .ref x_slots, .ref x_diary, .ref x_base, .ref x_trial, .ref x_plan, .ref x_orders, .ref x_unanswered, .int 0, .int 0, .int (-1)])), (x_current, .inr (7, [.int 0, .int 0, .int 0, .int 0, .int 0, .int 0, .int 0, .int 0, .ref t0, .ref t1, .ref t2, .ref t3, .ref t4, .ref t5, .ref t6, .ref t7, .ref t8, .ref t9]))]) [0, 1] (by decide) rfl
  have hKc := hK.sub (tys' := []) [] rfl
  have hFc := va_free (wc := [(h0, .inr (8, [.ref x_tape, .ref x_reader, .ref x_current, .ref x_images, .ref x_kept, .ref x_slots, .ref x_diary, .ref x_base, .ref x_trial, .ref x_plan, .ref x_orders, .ref x_unanswered, .int 0, .int 0, .int (-1)])), (x_current, .inr (7, [.int 0, .int 0, .int 0, .int 0, .int 0, .int 0, .int 0, .int 0, .ref t0, .ref t1, .ref t2, .ref t3, .ref t4, .ref t5, .ref t6, .ref t7, .ref t8, .ref t9]))]) hD hS hA [0, 1] rfl
  refine va_calli (va_runV (As := []) (rest := []) ⟨hx, hb, hml, hown, hts⟩ (c_noTown l dC dI s.heap.size h0 x_tape x_reader x_current x_images x_kept x_slots x_diary x_base x_trial x_plan x_orders x_unanswered t0 t1 t2 t3 t4 t5 t6 t7 t8 t9 ) (cwV 0 hts (goodV w_817 w_818 w_819 w_2 w_820) rfl rfl rfl hdV_X8_noTown ⟨Nat.le_of_ble_eq_true rfl, Nat.le_of_ble_eq_true rfl⟩) ⟨fun a U g mk q => by obtain ⟨q0, q1, qP, qK, qD⟩ := q; exact ⟨q0, q1, qP, va_K.moved (u := U) (U := U.calling g mk a) (Vm.Alike.refl U.vm) qK, qD⟩, va_recv hKc hPc (ci := 8) (q0 := 0) rfl rfl, fun U hU hW => ⟨rfl, by rw [hU], by rw [hU]; exact hPc, va_K.moved hW.alike hKc, hDc.weaken (fun _ _ _ _ => trivial)⟩⟩ rfl rfl hl.1 rfl (lv_room (Nat.le_of_ble_eq_true rfl)) dX8_late_1 ⟨Nat.le_of_ble_eq_true rfl, Nat.le_of_ble_eq_true rfl⟩) hS (fun q _ h => hFc q h) hFc (fun r_1 u t H1 locs ht hvm hw hB hz1 hk1 hS => ?_)
  obtain ⟨hP1, hK1, hD1⟩ := hB
  rw [ht] at hP1
  have hK1 := va_K.moved hvm.symm hK1
  obtain ⟨hP, hD⟩ := va_join (wr := []) (w1 := [(h0, .inr (8, [.ref x_tape, .ref x_reader, .ref x_current, .ref x_images, .ref x_kept, .ref x_slots, .ref x_diary, .ref x_base, .ref x_trial, .ref x_plan, .ref x_orders, .ref x_unanswered, .int 0, .int 0, .int (-1)])), (x_current, .inr (7, [.int 0, .int 0, .int 0, .int 0, .int 0, .int 0, .int 0, .int 0, .ref t0, .ref t1, .ref t2, .ref t3, .ref t4, .ref t5, .ref t6, .ref t7, .ref t8, .ref t9]))]) hP hD [0, 1] [] rfl rfl (by decide) (by decide) hk1 hFc hP1 hD1
  clear hPc hDc hKc hFc
  generalize H1 = H at hP hS ⊢
  have hP : va_P (dC, dI) vwCl [(h0, .inr (8, [.ref x_tape, .ref x_reader, .ref x_current, .ref x_images, .ref x_kept, .ref x_slots, .ref x_diary, .ref x_base, .ref x_trial, .ref x_plan, .ref x_orders, .ref x_unanswered, .int 0, .int 0, .int (-1)])), (x_current, .inr (7, [.int 0, .int 0, .int 0, .int 0, .int 0, .int 0, .int 0, .int 0, .ref t0, .ref t1, .ref t2, .ref t3, .ref t4, .ref t5, .ref t6, .ref t7, .ref t8, .ref t9]))] H := hP
  have hD : va_D A [(h0, .inr (8, [.ref x_tape, .ref x_reader, .ref x_current, .ref x_images, .ref x_kept, .ref x_slots, .ref x_diary, .ref x_base, .ref x_trial, .ref x_plan, .ref x_orders, .ref x_unanswered, .int 0, .int 0, .int (-1)])), (x_current, .inr (7, [.int 0, .int 0, .int 0, .int 0, .int 0, .int 0, .int 0, .int 0, .ref t0, .ref t1, .ref t2, .ref t3, .ref t4, .ref t5, .ref t6, .ref t7, .ref t8, .ref t9]))] := hD
  have hw : r_1 = 1 := hw
  subst hw
  refine lv_if_ne (tgt := 16) hx hb dX8_late_4 (by decide) (fun c_2 => ?_) (fun c_2 => absurd c_2 (by decide))
  refine lv_bipush (v := (-2)) hx hb dX8_late_16 (by decide) ?_
  exact W.iret (v := (-2)) hx hb hr (fun t ht hW => ⟨⟨(-2), (), rfl, rfl, trivial⟩, hS.F ht⟩) hS.2.2 dX8_late_18
set_option maxHeartbeats 4000000 in
set_option maxRecDepth 100000 in
theorem x_sum (l : Launch) (dC : Nat → ClassId) (dI : Nat → Nat → Nat) (sz : Nat) (h0 : Nat) (x_tape : Nat) (x_reader : Nat) (x_current : Nat) (x_images : Nat) (x_kept : Nat) (x_slots : Nat) (x_diary : Nat) (x_base : Nat) (x_trial : Nat) (x_plan : Nat) (x_orders : Nat) (x_unanswered : Nat) (t0 : Nat) (t1 : Nat) (t2 : Nat) (t3 : Nat) (t4 : Nat) (t5 : Nat) (t6 : Nat) (t7 : Nat) (t8 : Nat) (t9 : Nat) (a : Int32)  : Met l yX8_sum (.code yX8_sum cX8_sum 7 (some .int) :: ALLW) ({ frames := 1, cells := 0, slots := 0, locals := 20 }) (va_Pc [.ref h0, .int a] (fun U => U.heap.size = sz ∧ va_P (dC, dI) vwCl [(h0, .inr (8, [.ref x_tape, .ref x_reader, .ref x_current, .ref x_images, .ref x_kept, .ref x_slots, .ref x_diary, .ref x_base, .ref x_trial, .ref x_plan, .ref x_orders, .ref x_unanswered, .int 0, .int 0, .int (-1)])), (x_current, .inr (7, [.int 0, .int 0, .int 0, .int 0, .int 0, .int 0, .int 0, .int 0, .ref t0, .ref t1, .ref t2, .ref t3, .ref t4, .ref t5, .ref t6, .ref t7, .ref t8, .ref t9]))] U.heap ∧ va_K (dC, dI) vwCl [] U ∧ va_D (fun _ => True) [(h0, .inr (8, [.ref x_tape, .ref x_reader, .ref x_current, .ref x_images, .ref x_kept, .ref x_slots, .ref x_diary, .ref x_base, .ref x_trial, .ref x_plan, .ref x_orders, .ref x_unanswered, .int 0, .int 0, .int (-1)])), (x_current, .inr (7, [.int 0, .int 0, .int 0, .int 0, .int 0, .int 0, .int 0, .int 0, .ref t0, .ref t1, .ref t2, .ref t3, .ref t4, .ref t5, .ref t6, .ref t7, .ref t8, .ref t9]))])) (va_Qi (fun (r : Int32) (_ : Unit) => r = (-2)) (fun (_ : Unit) (_ : State) => True) (va_A [(h0, .inr (8, [.ref x_tape, .ref x_reader, .ref x_current, .ref x_images, .ref x_kept, .ref x_slots, .ref x_diary, .ref x_base, .ref x_trial, .ref x_plan, .ref x_orders, .ref x_unanswered, .int 0, .int 0, .int (-1)])), (x_current, .inr (7, [.int 0, .int 0, .int 0, .int 0, .int 0, .int 0, .int 0, .int 0, .ref t0, .ref t1, .ref t2, .ref t3, .ref t4, .ref t5, .ref t6, .ref t7, .ref t8, .ref t9]))] sz)) 0 0 (va_A [(h0, .inr (8, [.ref x_tape, .ref x_reader, .ref x_current, .ref x_images, .ref x_kept, .ref x_slots, .ref x_diary, .ref x_base, .ref x_trial, .ref x_plan, .ref x_orders, .ref x_unanswered, .int 0, .int 0, .int (-1)])), (x_current, .inr (7, [.int 0, .int 0, .int 0, .int 0, .int 0, .int 0, .int 0, .int 0, .ref t0, .ref t1, .ref t2, .ref t3, .ref t4, .ref t5, .ref t6, .ref t7, .ref t8, .ref t9]))] sz) := by
  refine Met.ofW (cc := cX8_sum) (maxL := 7) (ret := (some .int)) (by decide) rfl ?_
  intro p e s m args below meth c s₁ B hml hv
  obtain ⟨rfl, hsz, hP, hK, hD0⟩ := hv
  have hx := B.exec
  have hb := B.bytes
  have hr := B.returns
  have hts0 := atoms_spec (ws := (.code yX8_sum cX8_sum 7 (some .int) :: ALLW)) B.pre
  have hts := fun (w : Cond) (h : w ∈ ALLW) => hts0 w (List.mem_cons_of_mem _ h)
  have hown : s.vm.findClass RX8 = some m.cls := findClass_of_methodNamed B.named
  have hlocks := B.notSynchronized
  subst hsz
  have hD := hD0.self (sz := s.heap.size)
  generalize hAe : va_A [(h0, .inr (8, [.ref x_tape, .ref x_reader, .ref x_current, .ref x_images, .ref x_kept, .ref x_slots, .ref x_diary, .ref x_base, .ref x_trial, .ref x_plan, .ref x_orders, .ref x_unanswered, .int 0, .int 0, .int (-1)])), (x_current, .inr (7, [.int 0, .int 0, .int 0, .int 0, .int 0, .int 0, .int 0, .int 0, .ref t0, .ref t1, .ref t2, .ref t3, .ref t4, .ref t5, .ref t6, .ref t7, .ref t8, .ref t9]))] s.heap.size = A at hD ⊢
  have hA : ∀ q : Nat, s.heap.size ≤ q → A q := fun q h => by rw [← hAe]; exact Or.inr h
  have hS : va_S A s.heap s.heap [] := va_S.rf
  have hP : va_P (dC, dI) vwCl [(h0, .inr (8, [.ref x_tape, .ref x_reader, .ref x_current, .ref x_images, .ref x_kept, .ref x_slots, .ref x_diary, .ref x_base, .ref x_trial, .ref x_plan, .ref x_orders, .ref x_unanswered, .int 0, .int 0, .int (-1)])), (x_current, .inr (7, [.int 0, .int 0, .int 0, .int 0, .int 0, .int 0, .int 0, .int 0, .ref t0, .ref t1, .ref t2, .ref t3, .ref t4, .ref t5, .ref t6, .ref t7, .ref t8, .ref t9]))] s.heap := hP
  have hl := lv_entry ([.ref h0, .int a]) (n := 7) (Nat.le_of_ble_eq_true rfl)
  rw [lg_entry_eq]
  generalize (lg_sl ([.ref h0, .int a]) ++ List.replicate (7 - (lg_sl ([.ref h0, .int a])).length) Slot.unset).toArray = ls at hl ⊢
  have hl : lv_has ls 7 [(0, .ref h0), (1, .int a)] := hl
  refine lv_aload_n hx hb dX8_sum_0 rfl (lv_at hl 0 rfl) ?_
  have hPc := hP.sub (ws' := [(h0, .inr (8, [.ref x_tape, .ref x_reader, .ref x_current, .ref x_images, .ref x_kept, .ref x_slots, .ref x_diary, .ref x_base, .ref x_trial, .ref x_plan, .ref x_orders, .ref x_unanswered, .int 0, .int 0, .int (-1)])), (x_current, .inr (7, [.int 0, .int 0, .int 0, .int 0, .int 0, .int 0, .int 0, .int 0, .ref t0, .ref t1, .ref t2, .ref t3, .ref t4, .ref t5, .ref t6, .ref t7, .ref t8, .ref t9]))]) [0, 1] rfl
  have hDc := hD.sub (ws' := [(h0, .inr (8, [.ref x_tape, .ref x_reader, .ref x_current, .ref x_images, .ref x_kept, .ref x_slots, .ref x_diary, .ref x_base, .ref x_trial, .ref x_plan, .ref x_orders, .ref x_unanswered, .int 0, .int 0, .int (-1)])), (x_current, .inr (7, [.int 0, .int 0, .int 0, .int 0, .int 0, .int 0, .int 0, .int 0, .ref t0, .ref t1, .ref t2, .ref t3, .ref t4, .ref t5, .ref t6, .ref t7, .ref t8, .ref t9]))]) [0, 1] (by decide) rfl
  have hKc := hK.sub (tys' := []) [] rfl
  have hFc := va_free (wc := [(h0, .inr (8, [.ref x_tape, .ref x_reader, .ref x_current, .ref x_images, .ref x_kept, .ref x_slots, .ref x_diary, .ref x_base, .ref x_trial, .ref x_plan, .ref x_orders, .ref x_unanswered, .int 0, .int 0, .int (-1)])), (x_current, .inr (7, [.int 0, .int 0, .int 0, .int 0, .int 0, .int 0, .int 0, .int 0, .ref t0, .ref t1, .ref t2, .ref t3, .ref t4, .ref t5, .ref t6, .ref t7, .ref t8, .ref t9]))]) hD hS hA [0, 1] rfl
  refine va_calli (va_runV (As := []) (rest := []) ⟨hx, hb, hml, hown, hts⟩ (c_noTown l dC dI s.heap.size h0 x_tape x_reader x_current x_images x_kept x_slots x_diary x_base x_trial x_plan x_orders x_unanswered t0 t1 t2 t3 t4 t5 t6 t7 t8 t9 ) (cwV 0 hts (goodV w_817 w_818 w_819 w_2 w_820) rfl rfl rfl hdV_X8_noTown ⟨Nat.le_of_ble_eq_true rfl, Nat.le_of_ble_eq_true rfl⟩) ⟨fun a U g mk q => by obtain ⟨q0, q1, qP, qK, qD⟩ := q; exact ⟨q0, q1, qP, va_K.moved (u := U) (U := U.calling g mk a) (Vm.Alike.refl U.vm) qK, qD⟩, va_recv hKc hPc (ci := 8) (q0 := 0) rfl rfl, fun U hU hW => ⟨rfl, by rw [hU], by rw [hU]; exact hPc, va_K.moved hW.alike hKc, hDc.weaken (fun _ _ _ _ => trivial)⟩⟩ rfl rfl hl.1 rfl (lv_room (Nat.le_of_ble_eq_true rfl)) dX8_sum_1 ⟨Nat.le_of_ble_eq_true rfl, Nat.le_of_ble_eq_true rfl⟩) hS (fun q _ h => hFc q h) hFc (fun r_1 u t H1 locs ht hvm hw hB hz1 hk1 hS => ?_)
  obtain ⟨hP1, hK1, hD1⟩ := hB
  rw [ht] at hP1
  have hK1 := va_K.moved hvm.symm hK1
  obtain ⟨hP, hD⟩ := va_join (wr := []) (w1 := [(h0, .inr (8, [.ref x_tape, .ref x_reader, .ref x_current, .ref x_images, .ref x_kept, .ref x_slots, .ref x_diary, .ref x_base, .ref x_trial, .ref x_plan, .ref x_orders, .ref x_unanswered, .int 0, .int 0, .int (-1)])), (x_current, .inr (7, [.int 0, .int 0, .int 0, .int 0, .int 0, .int 0, .int 0, .int 0, .ref t0, .ref t1, .ref t2, .ref t3, .ref t4, .ref t5, .ref t6, .ref t7, .ref t8, .ref t9]))]) hP hD [0, 1] [] rfl rfl (by decide) (by decide) hk1 hFc hP1 hD1
  clear hPc hDc hKc hFc
  generalize H1 = H at hP hS ⊢
  have hP : va_P (dC, dI) vwCl [(h0, .inr (8, [.ref x_tape, .ref x_reader, .ref x_current, .ref x_images, .ref x_kept, .ref x_slots, .ref x_diary, .ref x_base, .ref x_trial, .ref x_plan, .ref x_orders, .ref x_unanswered, .int 0, .int 0, .int (-1)])), (x_current, .inr (7, [.int 0, .int 0, .int 0, .int 0, .int 0, .int 0, .int 0, .int 0, .ref t0, .ref t1, .ref t2, .ref t3, .ref t4, .ref t5, .ref t6, .ref t7, .ref t8, .ref t9]))] H := hP
  have hD : va_D A [(h0, .inr (8, [.ref x_tape, .ref x_reader, .ref x_current, .ref x_images, .ref x_kept, .ref x_slots, .ref x_diary, .ref x_base, .ref x_trial, .ref x_plan, .ref x_orders, .ref x_unanswered, .int 0, .int 0, .int (-1)])), (x_current, .inr (7, [.int 0, .int 0, .int 0, .int 0, .int 0, .int 0, .int 0, .int 0, .ref t0, .ref t1, .ref t2, .ref t3, .ref t4, .ref t5, .ref t6, .ref t7, .ref t8, .ref t9]))] := hD
  have hw : r_1 = 1 := hw
  subst hw
  refine lv_if_ne (tgt := 16) hx hb dX8_sum_4 (by decide) (fun c_2 => ?_) (fun c_2 => absurd c_2 (by decide))
  refine lv_bipush (v := (-2)) hx hb dX8_sum_16 (by decide) ?_
  exact W.iret (v := (-2)) hx hb hr (fun t ht hW => ⟨⟨(-2), (), rfl, rfl, trivial⟩, hS.F ht⟩) hS.2.2 dX8_sum_18
set_option maxHeartbeats 4000000 in
set_option maxRecDepth 100000 in
theorem x_by (l : Launch) (dC : Nat → ClassId) (dI : Nat → Nat → Nat) (sz : Nat) (h0 : Nat) (x_tape : Nat) (x_reader : Nat) (x_current : Nat) (x_images : Nat) (x_kept : Nat) (x_slots : Nat) (x_diary : Nat) (x_base : Nat) (x_trial : Nat) (x_plan : Nat) (x_orders : Nat) (x_unanswered : Nat) (t0 : Nat) (t1 : Nat) (t2 : Nat) (t3 : Nat) (t4 : Nat) (t5 : Nat) (t6 : Nat) (t7 : Nat) (t8 : Nat) (t9 : Nat) (a : Int32) (b : Int32) (d_ : Int32)  : Met l yX8_by (.code yX8_by cX8_by 4 (some .int) :: ALLW) ({ frames := 1, cells := 0, slots := 0, locals := 20 }) (va_Pc [.ref h0, .int a, .int b, .int d_] (fun U => U.heap.size = sz ∧ va_P (dC, dI) vwCl [(h0, .inr (8, [.ref x_tape, .ref x_reader, .ref x_current, .ref x_images, .ref x_kept, .ref x_slots, .ref x_diary, .ref x_base, .ref x_trial, .ref x_plan, .ref x_orders, .ref x_unanswered, .int 0, .int 0, .int (-1)])), (x_current, .inr (7, [.int 0, .int 0, .int 0, .int 0, .int 0, .int 0, .int 0, .int 0, .ref t0, .ref t1, .ref t2, .ref t3, .ref t4, .ref t5, .ref t6, .ref t7, .ref t8, .ref t9]))] U.heap ∧ va_K (dC, dI) vwCl [] U ∧ va_D (fun _ => True) [(h0, .inr (8, [.ref x_tape, .ref x_reader, .ref x_current, .ref x_images, .ref x_kept, .ref x_slots, .ref x_diary, .ref x_base, .ref x_trial, .ref x_plan, .ref x_orders, .ref x_unanswered, .int 0, .int 0, .int (-1)])), (x_current, .inr (7, [.int 0, .int 0, .int 0, .int 0, .int 0, .int 0, .int 0, .int 0, .ref t0, .ref t1, .ref t2, .ref t3, .ref t4, .ref t5, .ref t6, .ref t7, .ref t8, .ref t9]))])) (va_Qi (fun (r : Int32) (_ : Unit) => r = (-2)) (fun (_ : Unit) (_ : State) => True) (va_A [(h0, .inr (8, [.ref x_tape, .ref x_reader, .ref x_current, .ref x_images, .ref x_kept, .ref x_slots, .ref x_diary, .ref x_base, .ref x_trial, .ref x_plan, .ref x_orders, .ref x_unanswered, .int 0, .int 0, .int (-1)])), (x_current, .inr (7, [.int 0, .int 0, .int 0, .int 0, .int 0, .int 0, .int 0, .int 0, .ref t0, .ref t1, .ref t2, .ref t3, .ref t4, .ref t5, .ref t6, .ref t7, .ref t8, .ref t9]))] sz)) 0 0 (va_A [(h0, .inr (8, [.ref x_tape, .ref x_reader, .ref x_current, .ref x_images, .ref x_kept, .ref x_slots, .ref x_diary, .ref x_base, .ref x_trial, .ref x_plan, .ref x_orders, .ref x_unanswered, .int 0, .int 0, .int (-1)])), (x_current, .inr (7, [.int 0, .int 0, .int 0, .int 0, .int 0, .int 0, .int 0, .int 0, .ref t0, .ref t1, .ref t2, .ref t3, .ref t4, .ref t5, .ref t6, .ref t7, .ref t8, .ref t9]))] sz) := by
  refine Met.ofW (cc := cX8_by) (maxL := 4) (ret := (some .int)) (by decide) rfl ?_
  intro p e s m args below meth c s₁ B hml hv
  obtain ⟨rfl, hsz, hP, hK, hD0⟩ := hv
  have hx := B.exec
  have hb := B.bytes
  have hr := B.returns
  have hts0 := atoms_spec (ws := (.code yX8_by cX8_by 4 (some .int) :: ALLW)) B.pre
  have hts := fun (w : Cond) (h : w ∈ ALLW) => hts0 w (List.mem_cons_of_mem _ h)
  have hown : s.vm.findClass RX8 = some m.cls := findClass_of_methodNamed B.named
  have hlocks := B.notSynchronized
  subst hsz
  have hD := hD0.self (sz := s.heap.size)
  generalize hAe : va_A [(h0, .inr (8, [.ref x_tape, .ref x_reader, .ref x_current, .ref x_images, .ref x_kept, .ref x_slots, .ref x_diary, .ref x_base, .ref x_trial, .ref x_plan, .ref x_orders, .ref x_unanswered, .int 0, .int 0, .int (-1)])), (x_current, .inr (7, [.int 0, .int 0, .int 0, .int 0, .int 0, .int 0, .int 0, .int 0, .ref t0, .ref t1, .ref t2, .ref t3, .ref t4, .ref t5, .ref t6, .ref t7, .ref t8, .ref t9]))] s.heap.size = A at hD ⊢
  have hA : ∀ q : Nat, s.heap.size ≤ q → A q := fun q h => by rw [← hAe]; exact Or.inr h
  have hS : va_S A s.heap s.heap [] := va_S.rf
  have hP : va_P (dC, dI) vwCl [(h0, .inr (8, [.ref x_tape, .ref x_reader, .ref x_current, .ref x_images, .ref x_kept, .ref x_slots, .ref x_diary, .ref x_base, .ref x_trial, .ref x_plan, .ref x_orders, .ref x_unanswered, .int 0, .int 0, .int (-1)])), (x_current, .inr (7, [.int 0, .int 0, .int 0, .int 0, .int 0, .int 0, .int 0, .int 0, .ref t0, .ref t1, .ref t2, .ref t3, .ref t4, .ref t5, .ref t6, .ref t7, .ref t8, .ref t9]))] s.heap := hP
  have hl := lv_entry ([.ref h0, .int a, .int b, .int d_]) (n := 4) (Nat.le_of_ble_eq_true rfl)
  rw [lg_entry_eq]
  generalize (lg_sl ([.ref h0, .int a, .int b, .int d_]) ++ List.replicate (4 - (lg_sl ([.ref h0, .int a, .int b, .int d_])).length) Slot.unset).toArray = ls at hl ⊢
  have hl : lv_has ls 4 [(0, .ref h0), (1, .int a), (2, .int b), (3, .int d_)] := hl
  refine lv_aload_n hx hb dX8_by_0 rfl (lv_at hl 0 rfl) ?_
  have hPc := hP.sub (ws' := [(h0, .inr (8, [.ref x_tape, .ref x_reader, .ref x_current, .ref x_images, .ref x_kept, .ref x_slots, .ref x_diary, .ref x_base, .ref x_trial, .ref x_plan, .ref x_orders, .ref x_unanswered, .int 0, .int 0, .int (-1)])), (x_current, .inr (7, [.int 0, .int 0, .int 0, .int 0, .int 0, .int 0, .int 0, .int 0, .ref t0, .ref t1, .ref t2, .ref t3, .ref t4, .ref t5, .ref t6, .ref t7, .ref t8, .ref t9]))]) [0, 1] rfl
  have hDc := hD.sub (ws' := [(h0, .inr (8, [.ref x_tape, .ref x_reader, .ref x_current, .ref x_images, .ref x_kept, .ref x_slots, .ref x_diary, .ref x_base, .ref x_trial, .ref x_plan, .ref x_orders, .ref x_unanswered, .int 0, .int 0, .int (-1)])), (x_current, .inr (7, [.int 0, .int 0, .int 0, .int 0, .int 0, .int 0, .int 0, .int 0, .ref t0, .ref t1, .ref t2, .ref t3, .ref t4, .ref t5, .ref t6, .ref t7, .ref t8, .ref t9]))]) [0, 1] (by decide) rfl
  have hKc := hK.sub (tys' := []) [] rfl
  have hFc := va_free (wc := [(h0, .inr (8, [.ref x_tape, .ref x_reader, .ref x_current, .ref x_images, .ref x_kept, .ref x_slots, .ref x_diary, .ref x_base, .ref x_trial, .ref x_plan, .ref x_orders, .ref x_unanswered, .int 0, .int 0, .int (-1)])), (x_current, .inr (7, [.int 0, .int 0, .int 0, .int 0, .int 0, .int 0, .int 0, .int 0, .ref t0, .ref t1, .ref t2, .ref t3, .ref t4, .ref t5, .ref t6, .ref t7, .ref t8, .ref t9]))]) hD hS hA [0, 1] rfl
  refine va_calli (va_runV (As := []) (rest := []) ⟨hx, hb, hml, hown, hts⟩ (c_noTown l dC dI s.heap.size h0 x_tape x_reader x_current x_images x_kept x_slots x_diary x_base x_trial x_plan x_orders x_unanswered t0 t1 t2 t3 t4 t5 t6 t7 t8 t9 ) (cwV 0 hts (goodV w_817 w_818 w_819 w_2 w_820) rfl rfl rfl hdV_X8_noTown ⟨Nat.le_of_ble_eq_true rfl, Nat.le_of_ble_eq_true rfl⟩) ⟨fun a U g mk q => by obtain ⟨q0, q1, qP, qK, qD⟩ := q; exact ⟨q0, q1, qP, va_K.moved (u := U) (U := U.calling g mk a) (Vm.Alike.refl U.vm) qK, qD⟩, va_recv hKc hPc (ci := 8) (q0 := 0) rfl rfl, fun U hU hW => ⟨rfl, by rw [hU], by rw [hU]; exact hPc, va_K.moved hW.alike hKc, hDc.weaken (fun _ _ _ _ => trivial)⟩⟩ rfl rfl hl.1 rfl (lv_room (Nat.le_of_ble_eq_true rfl)) dX8_by_1 ⟨Nat.le_of_ble_eq_true rfl, Nat.le_of_ble_eq_true rfl⟩) hS (fun q _ h => hFc q h) hFc (fun r_1 u t H1 locs ht hvm hw hB hz1 hk1 hS => ?_)
  obtain ⟨hP1, hK1, hD1⟩ := hB
  rw [ht] at hP1
  have hK1 := va_K.moved hvm.symm hK1
  obtain ⟨hP, hD⟩ := va_join (wr := []) (w1 := [(h0, .inr (8, [.ref x_tape, .ref x_reader, .ref x_current, .ref x_images, .ref x_kept, .ref x_slots, .ref x_diary, .ref x_base, .ref x_trial, .ref x_plan, .ref x_orders, .ref x_unanswered, .int 0, .int 0, .int (-1)])), (x_current, .inr (7, [.int 0, .int 0, .int 0, .int 0, .int 0, .int 0, .int 0, .int 0, .ref t0, .ref t1, .ref t2, .ref t3, .ref t4, .ref t5, .ref t6, .ref t7, .ref t8, .ref t9]))]) hP hD [0, 1] [] rfl rfl (by decide) (by decide) hk1 hFc hP1 hD1
  clear hPc hDc hKc hFc
  generalize H1 = H at hP hS ⊢
  have hP : va_P (dC, dI) vwCl [(h0, .inr (8, [.ref x_tape, .ref x_reader, .ref x_current, .ref x_images, .ref x_kept, .ref x_slots, .ref x_diary, .ref x_base, .ref x_trial, .ref x_plan, .ref x_orders, .ref x_unanswered, .int 0, .int 0, .int (-1)])), (x_current, .inr (7, [.int 0, .int 0, .int 0, .int 0, .int 0, .int 0, .int 0, .int 0, .ref t0, .ref t1, .ref t2, .ref t3, .ref t4, .ref t5, .ref t6, .ref t7, .ref t8, .ref t9]))] H := hP
  have hD : va_D A [(h0, .inr (8, [.ref x_tape, .ref x_reader, .ref x_current, .ref x_images, .ref x_kept, .ref x_slots, .ref x_diary, .ref x_base, .ref x_trial, .ref x_plan, .ref x_orders, .ref x_unanswered, .int 0, .int 0, .int (-1)])), (x_current, .inr (7, [.int 0, .int 0, .int 0, .int 0, .int 0, .int 0, .int 0, .int 0, .ref t0, .ref t1, .ref t2, .ref t3, .ref t4, .ref t5, .ref t6, .ref t7, .ref t8, .ref t9]))] := hD
  have hw : r_1 = 1 := hw
  subst hw
  refine lv_if_ne (tgt := 33) hx hb dX8_by_4 (by decide) (fun c_2 => ?_) (fun c_2 => absurd c_2 (by decide))
  refine lv_bipush (v := (-2)) hx hb dX8_by_33 (by decide) ?_
  exact W.iret (v := (-2)) hx hb hr (fun t ht hW => ⟨⟨(-2), (), rfl, rfl, trivial⟩, hS.F ht⟩) hS.2.2 dX8_by_35
set_option maxHeartbeats 4000000 in
set_option maxRecDepth 100000 in
theorem x_best (l : Launch) (dC : Nat → ClassId) (dI : Nat → Nat → Nat) (sz : Nat) (h0 : Nat) (x_tape : Nat) (x_reader : Nat) (x_current : Nat) (x_images : Nat) (x_kept : Nat) (x_slots : Nat) (x_diary : Nat) (x_base : Nat) (x_trial : Nat) (x_plan : Nat) (x_orders : Nat) (x_unanswered : Nat) (t0 : Nat) (t1 : Nat) (t2 : Nat) (t3 : Nat) (t4 : Nat) (t5 : Nat) (t6 : Nat) (t7 : Nat) (t8 : Nat) (t9 : Nat)  : Met l yX8_best (.code yX8_best cX8_best 5 (some .int) :: ALLW) ({ frames := 1, cells := 0, slots := 0, locals := 20 }) (va_Pc [.ref h0] (fun U => U.heap.size = sz ∧ va_P (dC, dI) vwCl [(h0, .inr (8, [.ref x_tape, .ref x_reader, .ref x_current, .ref x_images, .ref x_kept, .ref x_slots, .ref x_diary, .ref x_base, .ref x_trial, .ref x_plan, .ref x_orders, .ref x_unanswered, .int 0, .int 0, .int (-1)])), (x_current, .inr (7, [.int 0, .int 0, .int 0, .int 0, .int 0, .int 0, .int 0, .int 0, .ref t0, .ref t1, .ref t2, .ref t3, .ref t4, .ref t5, .ref t6, .ref t7, .ref t8, .ref t9]))] U.heap ∧ va_K (dC, dI) vwCl [] U ∧ va_D (fun _ => True) [(h0, .inr (8, [.ref x_tape, .ref x_reader, .ref x_current, .ref x_images, .ref x_kept, .ref x_slots, .ref x_diary, .ref x_base, .ref x_trial, .ref x_plan, .ref x_orders, .ref x_unanswered, .int 0, .int 0, .int (-1)])), (x_current, .inr (7, [.int 0, .int 0, .int 0, .int 0, .int 0, .int 0, .int 0, .int 0, .ref t0, .ref t1, .ref t2, .ref t3, .ref t4, .ref t5, .ref t6, .ref t7, .ref t8, .ref t9]))])) (va_Qi (fun (r : Int32) (_ : Unit) => r = (-2)) (fun (_ : Unit) (_ : State) => True) (va_A [(h0, .inr (8, [.ref x_tape, .ref x_reader, .ref x_current, .ref x_images, .ref x_kept, .ref x_slots, .ref x_diary, .ref x_base, .ref x_trial, .ref x_plan, .ref x_orders, .ref x_unanswered, .int 0, .int 0, .int (-1)])), (x_current, .inr (7, [.int 0, .int 0, .int 0, .int 0, .int 0, .int 0, .int 0, .int 0, .ref t0, .ref t1, .ref t2, .ref t3, .ref t4, .ref t5, .ref t6, .ref t7, .ref t8, .ref t9]))] sz)) 0 0 (va_A [(h0, .inr (8, [.ref x_tape, .ref x_reader, .ref x_current, .ref x_images, .ref x_kept, .ref x_slots, .ref x_diary, .ref x_base, .ref x_trial, .ref x_plan, .ref x_orders, .ref x_unanswered, .int 0, .int 0, .int (-1)])), (x_current, .inr (7, [.int 0, .int 0, .int 0, .int 0, .int 0, .int 0, .int 0, .int 0, .ref t0, .ref t1, .ref t2, .ref t3, .ref t4, .ref t5, .ref t6, .ref t7, .ref t8, .ref t9]))] sz) := by
  refine Met.ofW (cc := cX8_best) (maxL := 5) (ret := (some .int)) (by decide) rfl ?_
  intro p e s m args below meth c s₁ B hml hv
  obtain ⟨rfl, hsz, hP, hK, hD0⟩ := hv
  have hx := B.exec
  have hb := B.bytes
  have hr := B.returns
  have hts0 := atoms_spec (ws := (.code yX8_best cX8_best 5 (some .int) :: ALLW)) B.pre
  have hts := fun (w : Cond) (h : w ∈ ALLW) => hts0 w (List.mem_cons_of_mem _ h)
  have hown : s.vm.findClass RX8 = some m.cls := findClass_of_methodNamed B.named
  have hlocks := B.notSynchronized
  subst hsz
  have hD := hD0.self (sz := s.heap.size)
  generalize hAe : va_A [(h0, .inr (8, [.ref x_tape, .ref x_reader, .ref x_current, .ref x_images, .ref x_kept, .ref x_slots, .ref x_diary, .ref x_base, .ref x_trial, .ref x_plan, .ref x_orders, .ref x_unanswered, .int 0, .int 0, .int (-1)])), (x_current, .inr (7, [.int 0, .int 0, .int 0, .int 0, .int 0, .int 0, .int 0, .int 0, .ref t0, .ref t1, .ref t2, .ref t3, .ref t4, .ref t5, .ref t6, .ref t7, .ref t8, .ref t9]))] s.heap.size = A at hD ⊢
  have hA : ∀ q : Nat, s.heap.size ≤ q → A q := fun q h => by rw [← hAe]; exact Or.inr h
  have hS : va_S A s.heap s.heap [] := va_S.rf
  have hP : va_P (dC, dI) vwCl [(h0, .inr (8, [.ref x_tape, .ref x_reader, .ref x_current, .ref x_images, .ref x_kept, .ref x_slots, .ref x_diary, .ref x_base, .ref x_trial, .ref x_plan, .ref x_orders, .ref x_unanswered, .int 0, .int 0, .int (-1)])), (x_current, .inr (7, [.int 0, .int 0, .int 0, .int 0, .int 0, .int 0, .int 0, .int 0, .ref t0, .ref t1, .ref t2, .ref t3, .ref t4, .ref t5, .ref t6, .ref t7, .ref t8, .ref t9]))] s.heap := hP
  have hl := lv_entry ([.ref h0]) (n := 5) (Nat.le_of_ble_eq_true rfl)
  rw [lg_entry_eq]
  generalize (lg_sl ([.ref h0]) ++ List.replicate (5 - (lg_sl ([.ref h0])).length) Slot.unset).toArray = ls at hl ⊢
  have hl : lv_has ls 5 [(0, .ref h0)] := hl
  refine lv_aload_n hx hb dX8_best_0 rfl (lv_at hl 0 rfl) ?_
  have hPc := hP.sub (ws' := [(h0, .inr (8, [.ref x_tape, .ref x_reader, .ref x_current, .ref x_images, .ref x_kept, .ref x_slots, .ref x_diary, .ref x_base, .ref x_trial, .ref x_plan, .ref x_orders, .ref x_unanswered, .int 0, .int 0, .int (-1)])), (x_current, .inr (7, [.int 0, .int 0, .int 0, .int 0, .int 0, .int 0, .int 0, .int 0, .ref t0, .ref t1, .ref t2, .ref t3, .ref t4, .ref t5, .ref t6, .ref t7, .ref t8, .ref t9]))]) [0, 1] rfl
  have hDc := hD.sub (ws' := [(h0, .inr (8, [.ref x_tape, .ref x_reader, .ref x_current, .ref x_images, .ref x_kept, .ref x_slots, .ref x_diary, .ref x_base, .ref x_trial, .ref x_plan, .ref x_orders, .ref x_unanswered, .int 0, .int 0, .int (-1)])), (x_current, .inr (7, [.int 0, .int 0, .int 0, .int 0, .int 0, .int 0, .int 0, .int 0, .ref t0, .ref t1, .ref t2, .ref t3, .ref t4, .ref t5, .ref t6, .ref t7, .ref t8, .ref t9]))]) [0, 1] (by decide) rfl
  have hKc := hK.sub (tys' := []) [] rfl
  have hFc := va_free (wc := [(h0, .inr (8, [.ref x_tape, .ref x_reader, .ref x_current, .ref x_images, .ref x_kept, .ref x_slots, .ref x_diary, .ref x_base, .ref x_trial, .ref x_plan, .ref x_orders, .ref x_unanswered, .int 0, .int 0, .int (-1)])), (x_current, .inr (7, [.int 0, .int 0, .int 0, .int 0, .int 0, .int 0, .int 0, .int 0, .ref t0, .ref t1, .ref t2, .ref t3, .ref t4, .ref t5, .ref t6, .ref t7, .ref t8, .ref t9]))]) hD hS hA [0, 1] rfl
  refine va_calli (va_runV (As := []) (rest := []) ⟨hx, hb, hml, hown, hts⟩ (c_noTown l dC dI s.heap.size h0 x_tape x_reader x_current x_images x_kept x_slots x_diary x_base x_trial x_plan x_orders x_unanswered t0 t1 t2 t3 t4 t5 t6 t7 t8 t9 ) (cwV 0 hts (goodV w_817 w_818 w_819 w_2 w_820) rfl rfl rfl hdV_X8_noTown ⟨Nat.le_of_ble_eq_true rfl, Nat.le_of_ble_eq_true rfl⟩) ⟨fun a U g mk q => by obtain ⟨q0, q1, qP, qK, qD⟩ := q; exact ⟨q0, q1, qP, va_K.moved (u := U) (U := U.calling g mk a) (Vm.Alike.refl U.vm) qK, qD⟩, va_recv hKc hPc (ci := 8) (q0 := 0) rfl rfl, fun U hU hW => ⟨rfl, by rw [hU], by rw [hU]; exact hPc, va_K.moved hW.alike hKc, hDc.weaken (fun _ _ _ _ => trivial)⟩⟩ rfl rfl hl.1 rfl (lv_room (Nat.le_of_ble_eq_true rfl)) dX8_best_1 ⟨Nat.le_of_ble_eq_true rfl, Nat.le_of_ble_eq_true rfl⟩) hS (fun q _ h => hFc q h) hFc (fun r_1 u t H1 locs ht hvm hw hB hz1 hk1 hS => ?_)
  obtain ⟨hP1, hK1, hD1⟩ := hB
  rw [ht] at hP1
  have hK1 := va_K.moved hvm.symm hK1
  obtain ⟨hP, hD⟩ := va_join (wr := []) (w1 := [(h0, .inr (8, [.ref x_tape, .ref x_reader, .ref x_current, .ref x_images, .ref x_kept, .ref x_slots, .ref x_diary, .ref x_base, .ref x_trial, .ref x_plan, .ref x_orders, .ref x_unanswered, .int 0, .int 0, .int (-1)])), (x_current, .inr (7, [.int 0, .int 0, .int 0, .int 0, .int 0, .int 0, .int 0, .int 0, .ref t0, .ref t1, .ref t2, .ref t3, .ref t4, .ref t5, .ref t6, .ref t7, .ref t8, .ref t9]))]) hP hD [0, 1] [] rfl rfl (by decide) (by decide) hk1 hFc hP1 hD1
  clear hPc hDc hKc hFc
  generalize H1 = H at hP hS ⊢
  have hP : va_P (dC, dI) vwCl [(h0, .inr (8, [.ref x_tape, .ref x_reader, .ref x_current, .ref x_images, .ref x_kept, .ref x_slots, .ref x_diary, .ref x_base, .ref x_trial, .ref x_plan, .ref x_orders, .ref x_unanswered, .int 0, .int 0, .int (-1)])), (x_current, .inr (7, [.int 0, .int 0, .int 0, .int 0, .int 0, .int 0, .int 0, .int 0, .ref t0, .ref t1, .ref t2, .ref t3, .ref t4, .ref t5, .ref t6, .ref t7, .ref t8, .ref t9]))] H := hP
  have hD : va_D A [(h0, .inr (8, [.ref x_tape, .ref x_reader, .ref x_current, .ref x_images, .ref x_kept, .ref x_slots, .ref x_diary, .ref x_base, .ref x_trial, .ref x_plan, .ref x_orders, .ref x_unanswered, .int 0, .int 0, .int (-1)])), (x_current, .inr (7, [.int 0, .int 0, .int 0, .int 0, .int 0, .int 0, .int 0, .int 0, .ref t0, .ref t1, .ref t2, .ref t3, .ref t4, .ref t5, .ref t6, .ref t7, .ref t8, .ref t9]))] := hD
  have hw : r_1 = 1 := hw
  subst hw
  refine lv_if_eq (tgt := 10) hx hb dX8_best_4 (by decide) (fun c_2 => absurd c_2 (by decide)) (fun c_2 => ?_)
  refine lv_bipush (v := (-2)) hx hb dX8_best_7 (by decide) ?_
  exact W.iret (v := (-2)) hx hb hr (fun t ht hW => ⟨⟨(-2), (), rfl, rfl, trivial⟩, hS.F ht⟩) hS.2.2 dX8_best_9
set_option maxHeartbeats 4000000 in
set_option maxRecDepth 100000 in
theorem x_order (l : Launch) (dC : Nat → ClassId) (dI : Nat → Nat → Nat) (sz : Nat) (h0 : Nat) (x_tape : Nat) (x_reader : Nat) (x_current : Nat) (x_images : Nat) (x_kept : Nat) (x_slots : Nat) (x_diary : Nat) (x_base : Nat) (x_trial : Nat) (x_plan : Nat) (x_orders : Nat) (x_unanswered : Nat) (t0 : Nat) (t1 : Nat) (t2 : Nat) (t3 : Nat) (t4 : Nat) (t5 : Nat) (t6 : Nat) (t7 : Nat) (t8 : Nat) (t9 : Nat) (a : Int32) (b : Int32)  : Met l yX8_order (.code yX8_order cX8_order 4 (some .int) :: ALLW) ({ frames := 2, cells := 0, slots := 0, locals := 45 }) (va_Pc [.ref h0, .int a, .int b] (fun U => U.heap.size = sz ∧ va_P (dC, dI) vwCl [(h0, .inr (8, [.ref x_tape, .ref x_reader, .ref x_current, .ref x_images, .ref x_kept, .ref x_slots, .ref x_diary, .ref x_base, .ref x_trial, .ref x_plan, .ref x_orders, .ref x_unanswered, .int 0, .int 0, .int (-1)])), (x_current, .inr (7, [.int 0, .int 0, .int 0, .int 0, .int 0, .int 0, .int 0, .int 0, .ref t0, .ref t1, .ref t2, .ref t3, .ref t4, .ref t5, .ref t6, .ref t7, .ref t8, .ref t9]))] U.heap ∧ va_K (dC, dI) vwCl [] U ∧ va_D (fun _ => True) [(h0, .inr (8, [.ref x_tape, .ref x_reader, .ref x_current, .ref x_images, .ref x_kept, .ref x_slots, .ref x_diary, .ref x_base, .ref x_trial, .ref x_plan, .ref x_orders, .ref x_unanswered, .int 0, .int 0, .int (-1)])), (x_current, .inr (7, [.int 0, .int 0, .int 0, .int 0, .int 0, .int 0, .int 0, .int 0, .ref t0, .ref t1, .ref t2, .ref t3, .ref t4, .ref t5, .ref t6, .ref t7, .ref t8, .ref t9]))])) (va_Qi (fun (r : Int32) (_ : Unit) => r = (-2)) (fun (_ : Unit) (_ : State) => True) (va_A [(h0, .inr (8, [.ref x_tape, .ref x_reader, .ref x_current, .ref x_images, .ref x_kept, .ref x_slots, .ref x_diary, .ref x_base, .ref x_trial, .ref x_plan, .ref x_orders, .ref x_unanswered, .int 0, .int 0, .int (-1)])), (x_current, .inr (7, [.int 0, .int 0, .int 0, .int 0, .int 0, .int 0, .int 0, .int 0, .ref t0, .ref t1, .ref t2, .ref t3, .ref t4, .ref t5, .ref t6, .ref t7, .ref t8, .ref t9]))] sz)) 0 0 (va_A [(h0, .inr (8, [.ref x_tape, .ref x_reader, .ref x_current, .ref x_images, .ref x_kept, .ref x_slots, .ref x_diary, .ref x_base, .ref x_trial, .ref x_plan, .ref x_orders, .ref x_unanswered, .int 0, .int 0, .int (-1)])), (x_current, .inr (7, [.int 0, .int 0, .int 0, .int 0, .int 0, .int 0, .int 0, .int 0, .ref t0, .ref t1, .ref t2, .ref t3, .ref t4, .ref t5, .ref t6, .ref t7, .ref t8, .ref t9]))] sz) := by
  refine Met.ofW (cc := cX8_order) (maxL := 4) (ret := (some .int)) (by decide) rfl ?_
  intro p e s m args below meth c s₁ B hml hv
  obtain ⟨rfl, hsz, hP, hK, hD0⟩ := hv
  have hx := B.exec
  have hb := B.bytes
  have hr := B.returns
  have hts0 := atoms_spec (ws := (.code yX8_order cX8_order 4 (some .int) :: ALLW)) B.pre
  have hts := fun (w : Cond) (h : w ∈ ALLW) => hts0 w (List.mem_cons_of_mem _ h)
  have hown : s.vm.findClass RX8 = some m.cls := findClass_of_methodNamed B.named
  have hlocks := B.notSynchronized
  subst hsz
  have hD := hD0.self (sz := s.heap.size)
  generalize hAe : va_A [(h0, .inr (8, [.ref x_tape, .ref x_reader, .ref x_current, .ref x_images, .ref x_kept, .ref x_slots, .ref x_diary, .ref x_base, .ref x_trial, .ref x_plan, .ref x_orders, .ref x_unanswered, .int 0, .int 0, .int (-1)])), (x_current, .inr (7, [.int 0, .int 0, .int 0, .int 0, .int 0, .int 0, .int 0, .int 0, .ref t0, .ref t1, .ref t2, .ref t3, .ref t4, .ref t5, .ref t6, .ref t7, .ref t8, .ref t9]))] s.heap.size = A at hD ⊢
  have hA : ∀ q : Nat, s.heap.size ≤ q → A q := fun q h => by rw [← hAe]; exact Or.inr h
  have hS : va_S A s.heap s.heap [] := va_S.rf
  have hP : va_P (dC, dI) vwCl [(h0, .inr (8, [.ref x_tape, .ref x_reader, .ref x_current, .ref x_images, .ref x_kept, .ref x_slots, .ref x_diary, .ref x_base, .ref x_trial, .ref x_plan, .ref x_orders, .ref x_unanswered, .int 0, .int 0, .int (-1)])), (x_current, .inr (7, [.int 0, .int 0, .int 0, .int 0, .int 0, .int 0, .int 0, .int 0, .ref t0, .ref t1, .ref t2, .ref t3, .ref t4, .ref t5, .ref t6, .ref t7, .ref t8, .ref t9]))] s.heap := hP
  have hl := lv_entry ([.ref h0, .int a, .int b]) (n := 4) (Nat.le_of_ble_eq_true rfl)
  rw [lg_entry_eq]
  generalize (lg_sl ([.ref h0, .int a, .int b]) ++ List.replicate (4 - (lg_sl ([.ref h0, .int a, .int b])).length) Slot.unset).toArray = ls at hl ⊢
  have hl : lv_has ls 4 [(0, .ref h0), (1, .int a), (2, .int b)] := hl
  refine lv_aload_n hx hb dX8_order_0 rfl (lv_at hl 0 rfl) ?_
  refine lv_iload_n hx hb dX8_order_1 rfl (lv_at hl 1 rfl) ?_
  refine lv_iload_n hx hb dX8_order_2 rfl (lv_at hl 2 rfl) ?_
  have hPc := hP.sub (ws' := [(h0, .inr (8, [.ref x_tape, .ref x_reader, .ref x_current, .ref x_images, .ref x_kept, .ref x_slots, .ref x_diary, .ref x_base, .ref x_trial, .ref x_plan, .ref x_orders, .ref x_unanswered, .int 0, .int 0, .int (-1)])), (x_current, .inr (7, [.int 0, .int 0, .int 0, .int 0, .int 0, .int 0, .int 0, .int 0, .ref t0, .ref t1, .ref t2, .ref t3, .ref t4, .ref t5, .ref t6, .ref t7, .ref t8, .ref t9]))]) [0, 1] rfl
  have hDc := hD.sub (ws' := [(h0, .inr (8, [.ref x_tape, .ref x_reader, .ref x_current, .ref x_images, .ref x_kept, .ref x_slots, .ref x_diary, .ref x_base, .ref x_trial, .ref x_plan, .ref x_orders, .ref x_unanswered, .int 0, .int 0, .int (-1)])), (x_current, .inr (7, [.int 0, .int 0, .int 0, .int 0, .int 0, .int 0, .int 0, .int 0, .ref t0, .ref t1, .ref t2, .ref t3, .ref t4, .ref t5, .ref t6, .ref t7, .ref t8, .ref t9]))]) [0, 1] (by decide) rfl
  have hKc := hK.sub (tys' := []) [] rfl
  have hFc := va_free (wc := [(h0, .inr (8, [.ref x_tape, .ref x_reader, .ref x_current, .ref x_images, .ref x_kept, .ref x_slots, .ref x_diary, .ref x_base, .ref x_trial, .ref x_plan, .ref x_orders, .ref x_unanswered, .int 0, .int 0, .int (-1)])), (x_current, .inr (7, [.int 0, .int 0, .int 0, .int 0, .int 0, .int 0, .int 0, .int 0, .ref t0, .ref t1, .ref t2, .ref t3, .ref t4, .ref t5, .ref t6, .ref t7, .ref t8, .ref t9]))]) hD hS hA [0, 1] rfl
  refine va_calli (va_runV (As := [.int a, .int b]) (rest := []) ⟨hx, hb, hml, hown, hts⟩ (c_findOrders l dC dI s.heap.size h0 x_tape x_reader x_current x_images x_kept x_slots x_diary x_base x_trial x_plan x_orders x_unanswered t0 t1 t2 t3 t4 t5 t6 t7 t8 t9 a b ) (cwV 2 hts (goodV w_1068 w_1069 w_1070 w_2 w_1071) rfl rfl rfl hdV_X8_findOrders ⟨Nat.le_of_ble_eq_true rfl, Nat.le_of_ble_eq_true rfl⟩) ⟨fun a U g mk q => by obtain ⟨q0, q1, qP, qK, qD⟩ := q; exact ⟨q0, q1, qP, va_K.moved (u := U) (U := U.calling g mk a) (Vm.Alike.refl U.vm) qK, qD⟩, va_recv hKc hPc (ci := 8) (q0 := 0) rfl rfl, fun U hU hW => ⟨rfl, by rw [hU], by rw [hU]; exact hPc, va_K.moved hW.alike hKc, hDc.weaken (fun _ _ _ _ => trivial)⟩⟩ rfl rfl hl.1 rfl (lv_room (Nat.le_of_ble_eq_true rfl)) dX8_order_3 ⟨Nat.le_of_ble_eq_true rfl, Nat.le_of_ble_eq_true rfl⟩) hS (fun q _ h => hFc q h) hFc (fun r_1 u t H1 locs ht hvm hw hB hz1 hk1 hS => ?_)
  obtain ⟨hP1, hK1, hD1⟩ := hB
  rw [ht] at hP1
  have hK1 := va_K.moved hvm.symm hK1
  obtain ⟨hP, hD⟩ := va_join (wr := []) (w1 := [(h0, .inr (8, [.ref x_tape, .ref x_reader, .ref x_current, .ref x_images, .ref x_kept, .ref x_slots, .ref x_diary, .ref x_base, .ref x_trial, .ref x_plan, .ref x_orders, .ref x_unanswered, .int 0, .int 0, .int (-1)])), (x_current, .inr (7, [.int 0, .int 0, .int 0, .int 0, .int 0, .int 0, .int 0, .int 0, .ref t0, .ref t1, .ref t2, .ref t3, .ref t4, .ref t5, .ref t6, .ref t7, .ref t8, .ref t9]))]) hP hD [0, 1] [] rfl rfl (by decide) (by decide) hk1 hFc hP1 hD1
  clear hPc hDc hKc hFc
  generalize H1 = H at hP hS ⊢
  have hP : va_P (dC, dI) vwCl [(h0, .inr (8, [.ref x_tape, .ref x_reader, .ref x_current, .ref x_images, .ref x_kept, .ref x_slots, .ref x_diary, .ref x_base, .ref x_trial, .ref x_plan, .ref x_orders, .ref x_unanswered, .int 0, .int 0, .int (-1)])), (x_current, .inr (7, [.int 0, .int 0, .int 0, .int 0, .int 0, .int 0, .int 0, .int 0, .ref t0, .ref t1, .ref t2, .ref t3, .ref t4, .ref t5, .ref t6, .ref t7, .ref t8, .ref t9]))] H := hP
  have hD : va_D A [(h0, .inr (8, [.ref x_tape, .ref x_reader, .ref x_current, .ref x_images, .ref x_kept, .ref x_slots, .ref x_diary, .ref x_base, .ref x_trial, .ref x_plan, .ref x_orders, .ref x_unanswered, .int 0, .int 0, .int (-1)])), (x_current, .inr (7, [.int 0, .int 0, .int 0, .int 0, .int 0, .int 0, .int 0, .int 0, .ref t0, .ref t1, .ref t2, .ref t3, .ref t4, .ref t5, .ref t6, .ref t7, .ref t8, .ref t9]))] := hD
  have hw : r_1 = (-2) := hw
  subst hw
  refine lv_istore_n (lv' := [(3, .int (-2)), (0, .ref h0), (1, .int a), (2, .int b)]) hx hb dX8_order_6 rfl hl (by decide) rfl (fun ls hl => ?_)
  refine lv_iload_n hx hb dX8_order_7 rfl (lv_at hl 0 rfl) ?_
  refine lv_if_eq (tgt := 15) hx hb dX8_order_8 (by decide) (fun c_2 => absurd c_2 (by decide)) (fun c_2 => ?_)
  refine lv_iload_n hx hb dX8_order_11 rfl (lv_at hl 0 rfl) ?_
  refine lv_goto (tgt := 22) hx hb dX8_order_12 (by decide) ?_
  exact W.iret (v := (-2)) hx hb hr (fun t ht hW => ⟨⟨(-2), (), rfl, rfl, trivial⟩, hS.F ht⟩) hS.2.2 dX8_order_22
set_option maxHeartbeats 4000000 in
set_option maxRecDepth 100000 in
theorem x_place (l : Launch) (dC : Nat → ClassId) (dI : Nat → Nat → Nat) (sz : Nat) (h0 : Nat) (x_tape : Nat) (x_reader : Nat) (x_current : Nat) (x_images : Nat) (x_kept : Nat) (x_slots : Nat) (x_diary : Nat) (x_base : Nat) (x_trial : Nat) (x_plan : Nat) (x_orders : Nat) (x_unanswered : Nat) (t0 : Nat) (t1 : Nat) (t2 : Nat) (t3 : Nat) (t4 : Nat) (t5 : Nat) (t6 : Nat) (t7 : Nat) (t8 : Nat) (t9 : Nat) (a : Int32) (b : Int32) (d_ : Int32)  : Met l yX8_place (.code yX8_place cX8_place 5 (some .int) :: ALLW) ({ frames := 2, cells := 0, slots := 0, locals := 45 }) (va_Pc [.ref h0, .int a, .int b, .int d_] (fun U => U.heap.size = sz ∧ va_P (dC, dI) vwCl [(h0, .inr (8, [.ref x_tape, .ref x_reader, .ref x_current, .ref x_images, .ref x_kept, .ref x_slots, .ref x_diary, .ref x_base, .ref x_trial, .ref x_plan, .ref x_orders, .ref x_unanswered, .int 0, .int 0, .int (-1)])), (x_current, .inr (7, [.int 0, .int 0, .int 0, .int 0, .int 0, .int 0, .int 0, .int 0, .ref t0, .ref t1, .ref t2, .ref t3, .ref t4, .ref t5, .ref t6, .ref t7, .ref t8, .ref t9]))] U.heap ∧ va_K (dC, dI) vwCl [] U ∧ va_D (fun _ => True) [(h0, .inr (8, [.ref x_tape, .ref x_reader, .ref x_current, .ref x_images, .ref x_kept, .ref x_slots, .ref x_diary, .ref x_base, .ref x_trial, .ref x_plan, .ref x_orders, .ref x_unanswered, .int 0, .int 0, .int (-1)])), (x_current, .inr (7, [.int 0, .int 0, .int 0, .int 0, .int 0, .int 0, .int 0, .int 0, .ref t0, .ref t1, .ref t2, .ref t3, .ref t4, .ref t5, .ref t6, .ref t7, .ref t8, .ref t9]))])) (va_Qi (fun (r : Int32) (_ : Unit) => r = (-2)) (fun (_ : Unit) (_ : State) => True) (va_A [(h0, .inr (8, [.ref x_tape, .ref x_reader, .ref x_current, .ref x_images, .ref x_kept, .ref x_slots, .ref x_diary, .ref x_base, .ref x_trial, .ref x_plan, .ref x_orders, .ref x_unanswered, .int 0, .int 0, .int (-1)])), (x_current, .inr (7, [.int 0, .int 0, .int 0, .int 0, .int 0, .int 0, .int 0, .int 0, .ref t0, .ref t1, .ref t2, .ref t3, .ref t4, .ref t5, .ref t6, .ref t7, .ref t8, .ref t9]))] sz)) 0 0 (va_A [(h0, .inr (8, [.ref x_tape, .ref x_reader, .ref x_current, .ref x_images, .ref x_kept, .ref x_slots, .ref x_diary, .ref x_base, .ref x_trial, .ref x_plan, .ref x_orders, .ref x_unanswered, .int 0, .int 0, .int (-1)])), (x_current, .inr (7, [.int 0, .int 0, .int 0, .int 0, .int 0, .int 0, .int 0, .int 0, .ref t0, .ref t1, .ref t2, .ref t3, .ref t4, .ref t5, .ref t6, .ref t7, .ref t8, .ref t9]))] sz) := by
  refine Met.ofW (cc := cX8_place) (maxL := 5) (ret := (some .int)) (by decide) rfl ?_
  intro p e s m args below meth c s₁ B hml hv
  obtain ⟨rfl, hsz, hP, hK, hD0⟩ := hv
  have hx := B.exec
  have hb := B.bytes
  have hr := B.returns
  have hts0 := atoms_spec (ws := (.code yX8_place cX8_place 5 (some .int) :: ALLW)) B.pre
  have hts := fun (w : Cond) (h : w ∈ ALLW) => hts0 w (List.mem_cons_of_mem _ h)
  have hown : s.vm.findClass RX8 = some m.cls := findClass_of_methodNamed B.named
  have hlocks := B.notSynchronized
  subst hsz
  have hD := hD0.self (sz := s.heap.size)
  generalize hAe : va_A [(h0, .inr (8, [.ref x_tape, .ref x_reader, .ref x_current, .ref x_images, .ref x_kept, .ref x_slots, .ref x_diary, .ref x_base, .ref x_trial, .ref x_plan, .ref x_orders, .ref x_unanswered, .int 0, .int 0, .int (-1)])), (x_current, .inr (7, [.int 0, .int 0, .int 0, .int 0, .int 0, .int 0, .int 0, .int 0, .ref t0, .ref t1, .ref t2, .ref t3, .ref t4, .ref t5, .ref t6, .ref t7, .ref t8, .ref t9]))] s.heap.size = A at hD ⊢
  have hA : ∀ q : Nat, s.heap.size ≤ q → A q := fun q h => by rw [← hAe]; exact Or.inr h
  have hS : va_S A s.heap s.heap [] := va_S.rf
  have hP : va_P (dC, dI) vwCl [(h0, .inr (8, [.ref x_tape, .ref x_reader, .ref x_current, .ref x_images, .ref x_kept, .ref x_slots, .ref x_diary, .ref x_base, .ref x_trial, .ref x_plan, .ref x_orders, .ref x_unanswered, .int 0, .int 0, .int (-1)])), (x_current, .inr (7, [.int 0, .int 0, .int 0, .int 0, .int 0, .int 0, .int 0, .int 0, .ref t0, .ref t1, .ref t2, .ref t3, .ref t4, .ref t5, .ref t6, .ref t7, .ref t8, .ref t9]))] s.heap := hP
  have hl := lv_entry ([.ref h0, .int a, .int b, .int d_]) (n := 5) (Nat.le_of_ble_eq_true rfl)
  rw [lg_entry_eq]
  generalize (lg_sl ([.ref h0, .int a, .int b, .int d_]) ++ List.replicate (5 - (lg_sl ([.ref h0, .int a, .int b, .int d_])).length) Slot.unset).toArray = ls at hl ⊢
  have hl : lv_has ls 5 [(0, .ref h0), (1, .int a), (2, .int b), (3, .int d_)] := hl
  refine lv_aload_n hx hb dX8_place_0 rfl (lv_at hl 0 rfl) ?_
  refine lv_iload_n hx hb dX8_place_1 rfl (lv_at hl 1 rfl) ?_
  refine lv_iload_n hx hb dX8_place_2 rfl (lv_at hl 2 rfl) ?_
  have hPc := hP.sub (ws' := [(h0, .inr (8, [.ref x_tape, .ref x_reader, .ref x_current, .ref x_images, .ref x_kept, .ref x_slots, .ref x_diary, .ref x_base, .ref x_trial, .ref x_plan, .ref x_orders, .ref x_unanswered, .int 0, .int 0, .int (-1)])), (x_current, .inr (7, [.int 0, .int 0, .int 0, .int 0, .int 0, .int 0, .int 0, .int 0, .ref t0, .ref t1, .ref t2, .ref t3, .ref t4, .ref t5, .ref t6, .ref t7, .ref t8, .ref t9]))]) [0, 1] rfl
  have hDc := hD.sub (ws' := [(h0, .inr (8, [.ref x_tape, .ref x_reader, .ref x_current, .ref x_images, .ref x_kept, .ref x_slots, .ref x_diary, .ref x_base, .ref x_trial, .ref x_plan, .ref x_orders, .ref x_unanswered, .int 0, .int 0, .int (-1)])), (x_current, .inr (7, [.int 0, .int 0, .int 0, .int 0, .int 0, .int 0, .int 0, .int 0, .ref t0, .ref t1, .ref t2, .ref t3, .ref t4, .ref t5, .ref t6, .ref t7, .ref t8, .ref t9]))]) [0, 1] (by decide) rfl
  have hKc := hK.sub (tys' := []) [] rfl
  have hFc := va_free (wc := [(h0, .inr (8, [.ref x_tape, .ref x_reader, .ref x_current, .ref x_images, .ref x_kept, .ref x_slots, .ref x_diary, .ref x_base, .ref x_trial, .ref x_plan, .ref x_orders, .ref x_unanswered, .int 0, .int 0, .int (-1)])), (x_current, .inr (7, [.int 0, .int 0, .int 0, .int 0, .int 0, .int 0, .int 0, .int 0, .ref t0, .ref t1, .ref t2, .ref t3, .ref t4, .ref t5, .ref t6, .ref t7, .ref t8, .ref t9]))]) hD hS hA [0, 1] rfl
  refine va_calli (va_runV (As := [.int a, .int b]) (rest := []) ⟨hx, hb, hml, hown, hts⟩ (c_findOrders l dC dI s.heap.size h0 x_tape x_reader x_current x_images x_kept x_slots x_diary x_base x_trial x_plan x_orders x_unanswered t0 t1 t2 t3 t4 t5 t6 t7 t8 t9 a b ) (cwV 2 hts (goodV w_1068 w_1069 w_1070 w_2 w_1071) rfl rfl rfl hdV_X8_findOrders ⟨Nat.le_of_ble_eq_true rfl, Nat.le_of_ble_eq_true rfl⟩) ⟨fun a U g mk q => by obtain ⟨q0, q1, qP, qK, qD⟩ := q; exact ⟨q0, q1, qP, va_K.moved (u := U) (U := U.calling g mk a) (Vm.Alike.refl U.vm) qK, qD⟩, va_recv hKc hPc (ci := 8) (q0 := 0) rfl rfl, fun U hU hW => ⟨rfl, by rw [hU], by rw [hU]; exact hPc, va_K.moved hW.alike hKc, hDc.weaken (fun _ _ _ _ => trivial)⟩⟩ rfl rfl hl.1 rfl (lv_room (Nat.le_of_ble_eq_true rfl)) dX8_place_3 ⟨Nat.le_of_ble_eq_true rfl, Nat.le_of_ble_eq_true rfl⟩) hS (fun q _ h => hFc q h) hFc (fun r_1 u t H1 locs ht hvm hw hB hz1 hk1 hS => ?_)
  obtain ⟨hP1, hK1, hD1⟩ := hB
  rw [ht] at hP1
  have hK1 := va_K.moved hvm.symm hK1
  obtain ⟨hP, hD⟩ := va_join (wr := []) (w1 := [(h0, .inr (8, [.ref x_tape, .ref x_reader, .ref x_current, .ref x_images, .ref x_kept, .ref x_slots, .ref x_diary, .ref x_base, .ref x_trial, .ref x_plan, .ref x_orders, .ref x_unanswered, .int 0, .int 0, .int (-1)])), (x_current, .inr (7, [.int 0, .int 0, .int 0, .int 0, .int 0, .int 0, .int 0, .int 0, .ref t0, .ref t1, .ref t2, .ref t3, .ref t4, .ref t5, .ref t6, .ref t7, .ref t8, .ref t9]))]) hP hD [0, 1] [] rfl rfl (by decide) (by decide) hk1 hFc hP1 hD1
  clear hPc hDc hKc hFc
  generalize H1 = H at hP hS ⊢
  have hP : va_P (dC, dI) vwCl [(h0, .inr (8, [.ref x_tape, .ref x_reader, .ref x_current, .ref x_images, .ref x_kept, .ref x_slots, .ref x_diary, .ref x_base, .ref x_trial, .ref x_plan, .ref x_orders, .ref x_unanswered, .int 0, .int 0, .int (-1)])), (x_current, .inr (7, [.int 0, .int 0, .int 0, .int 0, .int 0, .int 0, .int 0, .int 0, .ref t0, .ref t1, .ref t2, .ref t3, .ref t4, .ref t5, .ref t6, .ref t7, .ref t8, .ref t9]))] H := hP
  have hD : va_D A [(h0, .inr (8, [.ref x_tape, .ref x_reader, .ref x_current, .ref x_images, .ref x_kept, .ref x_slots, .ref x_diary, .ref x_base, .ref x_trial, .ref x_plan, .ref x_orders, .ref x_unanswered, .int 0, .int 0, .int (-1)])), (x_current, .inr (7, [.int 0, .int 0, .int 0, .int 0, .int 0, .int 0, .int 0, .int 0, .ref t0, .ref t1, .ref t2, .ref t3, .ref t4, .ref t5, .ref t6, .ref t7, .ref t8, .ref t9]))] := hD
  have hw : r_1 = (-2) := hw
  subst hw
  refine lv_istore (lv' := [(4, .int (-2)), (0, .ref h0), (1, .int a), (2, .int b), (3, .int d_)]) hx hb dX8_place_6 hl (by decide) rfl (fun ls hl => ?_)
  refine lv_iload hx hb dX8_place_8 (lv_at hl 0 rfl) ?_
  refine lv_if_eq (tgt := 16) hx hb dX8_place_10 (by decide) (fun c_2 => absurd c_2 (by decide)) (fun c_2 => ?_)
  refine lv_iload hx hb dX8_place_13 (lv_at hl 0 rfl) ?_
  exact W.iret (v := (-2)) hx hb hr (fun t ht hW => ⟨⟨(-2), (), rfl, rfl, trivial⟩, hS.F ht⟩) hS.2.2 dX8_place_15
set_option maxHeartbeats 4000000 in
set_option maxRecDepth 100000 in
theorem x_worst (l : Launch) (dC : Nat → ClassId) (dI : Nat → Nat → Nat) (sz : Nat) (h0 : Nat) (x_tape : Nat) (x_reader : Nat) (x_current : Nat) (x_images : Nat) (x_kept : Nat) (x_slots : Nat) (x_diary : Nat) (x_base : Nat) (x_trial : Nat) (x_plan : Nat) (x_orders : Nat) (x_unanswered : Nat) (t0 : Nat) (t1 : Nat) (t2 : Nat) (t3 : Nat) (t4 : Nat) (t5 : Nat) (t6 : Nat) (t7 : Nat) (t8 : Nat) (t9 : Nat) (a : Int32) (b : Int32)  : Met l yX8_worst (.code yX8_worst cX8_worst 4 (some .int) :: ALLW) ({ frames := 2, cells := 0, slots := 0, locals := 45 }) (va_Pc [.ref h0, .int a, .int b] (fun U => U.heap.size = sz ∧ va_P (dC, dI) vwCl [(h0, .inr (8, [.ref x_tape, .ref x_reader, .ref x_current, .ref x_images, .ref x_kept, .ref x_slots, .ref x_diary, .ref x_base, .ref x_trial, .ref x_plan, .ref x_orders, .ref x_unanswered, .int 0, .int 0, .int (-1)])), (x_current, .inr (7, [.int 0, .int 0, .int 0, .int 0, .int 0, .int 0, .int 0, .int 0, .ref t0, .ref t1, .ref t2, .ref t3, .ref t4, .ref t5, .ref t6, .ref t7, .ref t8, .ref t9]))] U.heap ∧ va_K (dC, dI) vwCl [] U ∧ va_D (fun _ => True) [(h0, .inr (8, [.ref x_tape, .ref x_reader, .ref x_current, .ref x_images, .ref x_kept, .ref x_slots, .ref x_diary, .ref x_base, .ref x_trial, .ref x_plan, .ref x_orders, .ref x_unanswered, .int 0, .int 0, .int (-1)])), (x_current, .inr (7, [.int 0, .int 0, .int 0, .int 0, .int 0, .int 0, .int 0, .int 0, .ref t0, .ref t1, .ref t2, .ref t3, .ref t4, .ref t5, .ref t6, .ref t7, .ref t8, .ref t9]))])) (va_Qi (fun (r : Int32) (_ : Unit) => r = (-2)) (fun (_ : Unit) (_ : State) => True) (va_A [(h0, .inr (8, [.ref x_tape, .ref x_reader, .ref x_current, .ref x_images, .ref x_kept, .ref x_slots, .ref x_diary, .ref x_base, .ref x_trial, .ref x_plan, .ref x_orders, .ref x_unanswered, .int 0, .int 0, .int (-1)])), (x_current, .inr (7, [.int 0, .int 0, .int 0, .int 0, .int 0, .int 0, .int 0, .int 0, .ref t0, .ref t1, .ref t2, .ref t3, .ref t4, .ref t5, .ref t6, .ref t7, .ref t8, .ref t9]))] sz)) 0 0 (va_A [(h0, .inr (8, [.ref x_tape, .ref x_reader, .ref x_current, .ref x_images, .ref x_kept, .ref x_slots, .ref x_diary, .ref x_base, .ref x_trial, .ref x_plan, .ref x_orders, .ref x_unanswered, .int 0, .int 0, .int (-1)])), (x_current, .inr (7, [.int 0, .int 0, .int 0, .int 0, .int 0, .int 0, .int 0, .int 0, .ref t0, .ref t1, .ref t2, .ref t3, .ref t4, .ref t5, .ref t6, .ref t7, .ref t8, .ref t9]))] sz) := by
  refine Met.ofW (cc := cX8_worst) (maxL := 4) (ret := (some .int)) (by decide) rfl ?_
  intro p e s m args below meth c s₁ B hml hv
  obtain ⟨rfl, hsz, hP, hK, hD0⟩ := hv
  have hx := B.exec
  have hb := B.bytes
  have hr := B.returns
  have hts0 := atoms_spec (ws := (.code yX8_worst cX8_worst 4 (some .int) :: ALLW)) B.pre
  have hts := fun (w : Cond) (h : w ∈ ALLW) => hts0 w (List.mem_cons_of_mem _ h)
  have hown : s.vm.findClass RX8 = some m.cls := findClass_of_methodNamed B.named
  have hlocks := B.notSynchronized
  subst hsz
  have hD := hD0.self (sz := s.heap.size)
  generalize hAe : va_A [(h0, .inr (8, [.ref x_tape, .ref x_reader, .ref x_current, .ref x_images, .ref x_kept, .ref x_slots, .ref x_diary, .ref x_base, .ref x_trial, .ref x_plan, .ref x_orders, .ref x_unanswered, .int 0, .int 0, .int (-1)])), (x_current, .inr (7, [.int 0, .int 0, .int 0, .int 0, .int 0, .int 0, .int 0, .int 0, .ref t0, .ref t1, .ref t2, .ref t3, .ref t4, .ref t5, .ref t6, .ref t7, .ref t8, .ref t9]))] s.heap.size = A at hD ⊢
  have hA : ∀ q : Nat, s.heap.size ≤ q → A q := fun q h => by rw [← hAe]; exact Or.inr h
  have hS : va_S A s.heap s.heap [] := va_S.rf
  have hP : va_P (dC, dI) vwCl [(h0, .inr (8, [.ref x_tape, .ref x_reader, .ref x_current, .ref x_images, .ref x_kept, .ref x_slots, .ref x_diary, .ref x_base, .ref x_trial, .ref x_plan, .ref x_orders, .ref x_unanswered, .int 0, .int 0, .int (-1)])), (x_current, .inr (7, [.int 0, .int 0, .int 0, .int 0, .int 0, .int 0, .int 0, .int 0, .ref t0, .ref t1, .ref t2, .ref t3, .ref t4, .ref t5, .ref t6, .ref t7, .ref t8, .ref t9]))] s.heap := hP
  have hl := lv_entry ([.ref h0, .int a, .int b]) (n := 4) (Nat.le_of_ble_eq_true rfl)
  rw [lg_entry_eq]
  generalize (lg_sl ([.ref h0, .int a, .int b]) ++ List.replicate (4 - (lg_sl ([.ref h0, .int a, .int b])).length) Slot.unset).toArray = ls at hl ⊢
  have hl : lv_has ls 4 [(0, .ref h0), (1, .int a), (2, .int b)] := hl
  refine lv_aload_n hx hb dX8_worst_0 rfl (lv_at hl 0 rfl) ?_
  refine lv_iload_n hx hb dX8_worst_1 rfl (lv_at hl 1 rfl) ?_
  refine lv_iload_n hx hb dX8_worst_2 rfl (lv_at hl 2 rfl) ?_
  have hPc := hP.sub (ws' := [(h0, .inr (8, [.ref x_tape, .ref x_reader, .ref x_current, .ref x_images, .ref x_kept, .ref x_slots, .ref x_diary, .ref x_base, .ref x_trial, .ref x_plan, .ref x_orders, .ref x_unanswered, .int 0, .int 0, .int (-1)])), (x_current, .inr (7, [.int 0, .int 0, .int 0, .int 0, .int 0, .int 0, .int 0, .int 0, .ref t0, .ref t1, .ref t2, .ref t3, .ref t4, .ref t5, .ref t6, .ref t7, .ref t8, .ref t9]))]) [0, 1] rfl
  have hDc := hD.sub (ws' := [(h0, .inr (8, [.ref x_tape, .ref x_reader, .ref x_current, .ref x_images, .ref x_kept, .ref x_slots, .ref x_diary, .ref x_base, .ref x_trial, .ref x_plan, .ref x_orders, .ref x_unanswered, .int 0, .int 0, .int (-1)])), (x_current, .inr (7, [.int 0, .int 0, .int 0, .int 0, .int 0, .int 0, .int 0, .int 0, .ref t0, .ref t1, .ref t2, .ref t3, .ref t4, .ref t5, .ref t6, .ref t7, .ref t8, .ref t9]))]) [0, 1] (by decide) rfl
  have hKc := hK.sub (tys' := []) [] rfl
  have hFc := va_free (wc := [(h0, .inr (8, [.ref x_tape, .ref x_reader, .ref x_current, .ref x_images, .ref x_kept, .ref x_slots, .ref x_diary, .ref x_base, .ref x_trial, .ref x_plan, .ref x_orders, .ref x_unanswered, .int 0, .int 0, .int (-1)])), (x_current, .inr (7, [.int 0, .int 0, .int 0, .int 0, .int 0, .int 0, .int 0, .int 0, .ref t0, .ref t1, .ref t2, .ref t3, .ref t4, .ref t5, .ref t6, .ref t7, .ref t8, .ref t9]))]) hD hS hA [0, 1] rfl
  refine va_calli (va_runV (As := [.int a, .int b]) (rest := []) ⟨hx, hb, hml, hown, hts⟩ (c_findOrders l dC dI s.heap.size h0 x_tape x_reader x_current x_images x_kept x_slots x_diary x_base x_trial x_plan x_orders x_unanswered t0 t1 t2 t3 t4 t5 t6 t7 t8 t9 a b ) (cwV 2 hts (goodV w_1068 w_1069 w_1070 w_2 w_1071) rfl rfl rfl hdV_X8_findOrders ⟨Nat.le_of_ble_eq_true rfl, Nat.le_of_ble_eq_true rfl⟩) ⟨fun a U g mk q => by obtain ⟨q0, q1, qP, qK, qD⟩ := q; exact ⟨q0, q1, qP, va_K.moved (u := U) (U := U.calling g mk a) (Vm.Alike.refl U.vm) qK, qD⟩, va_recv hKc hPc (ci := 8) (q0 := 0) rfl rfl, fun U hU hW => ⟨rfl, by rw [hU], by rw [hU]; exact hPc, va_K.moved hW.alike hKc, hDc.weaken (fun _ _ _ _ => trivial)⟩⟩ rfl rfl hl.1 rfl (lv_room (Nat.le_of_ble_eq_true rfl)) dX8_worst_3 ⟨Nat.le_of_ble_eq_true rfl, Nat.le_of_ble_eq_true rfl⟩) hS (fun q _ h => hFc q h) hFc (fun r_1 u t H1 locs ht hvm hw hB hz1 hk1 hS => ?_)
  obtain ⟨hP1, hK1, hD1⟩ := hB
  rw [ht] at hP1
  have hK1 := va_K.moved hvm.symm hK1
  obtain ⟨hP, hD⟩ := va_join (wr := []) (w1 := [(h0, .inr (8, [.ref x_tape, .ref x_reader, .ref x_current, .ref x_images, .ref x_kept, .ref x_slots, .ref x_diary, .ref x_base, .ref x_trial, .ref x_plan, .ref x_orders, .ref x_unanswered, .int 0, .int 0, .int (-1)])), (x_current, .inr (7, [.int 0, .int 0, .int 0, .int 0, .int 0, .int 0, .int 0, .int 0, .ref t0, .ref t1, .ref t2, .ref t3, .ref t4, .ref t5, .ref t6, .ref t7, .ref t8, .ref t9]))]) hP hD [0, 1] [] rfl rfl (by decide) (by decide) hk1 hFc hP1 hD1
  clear hPc hDc hKc hFc
  generalize H1 = H at hP hS ⊢
  have hP : va_P (dC, dI) vwCl [(h0, .inr (8, [.ref x_tape, .ref x_reader, .ref x_current, .ref x_images, .ref x_kept, .ref x_slots, .ref x_diary, .ref x_base, .ref x_trial, .ref x_plan, .ref x_orders, .ref x_unanswered, .int 0, .int 0, .int (-1)])), (x_current, .inr (7, [.int 0, .int 0, .int 0, .int 0, .int 0, .int 0, .int 0, .int 0, .ref t0, .ref t1, .ref t2, .ref t3, .ref t4, .ref t5, .ref t6, .ref t7, .ref t8, .ref t9]))] H := hP
  have hD : va_D A [(h0, .inr (8, [.ref x_tape, .ref x_reader, .ref x_current, .ref x_images, .ref x_kept, .ref x_slots, .ref x_diary, .ref x_base, .ref x_trial, .ref x_plan, .ref x_orders, .ref x_unanswered, .int 0, .int 0, .int (-1)])), (x_current, .inr (7, [.int 0, .int 0, .int 0, .int 0, .int 0, .int 0, .int 0, .int 0, .ref t0, .ref t1, .ref t2, .ref t3, .ref t4, .ref t5, .ref t6, .ref t7, .ref t8, .ref t9]))] := hD
  have hw : r_1 = (-2) := hw
  subst hw
  refine lv_istore_n (lv' := [(3, .int (-2)), (0, .ref h0), (1, .int a), (2, .int b)]) hx hb dX8_worst_6 rfl hl (by decide) rfl (fun ls hl => ?_)
  refine lv_iload_n hx hb dX8_worst_7 rfl (lv_at hl 0 rfl) ?_
  refine lv_if_eq (tgt := 15) hx hb dX8_worst_8 (by decide) (fun c_2 => absurd c_2 (by decide)) (fun c_2 => ?_)
  refine lv_iload_n hx hb dX8_worst_11 rfl (lv_at hl 0 rfl) ?_
  refine lv_goto (tgt := 22) hx hb dX8_worst_12 (by decide) ?_
  exact W.iret (v := (-2)) hx hb hr (fun t ht hW => ⟨⟨(-2), (), rfl, rfl, trivial⟩, hS.F ht⟩) hS.2.2 dX8_worst_22
set_option maxHeartbeats 4000000 in
set_option maxRecDepth 100000 in
theorem x_longest (l : Launch) (dC : Nat → ClassId) (dI : Nat → Nat → Nat) (sz : Nat) (h0 : Nat) (x_tape : Nat) (x_reader : Nat) (x_current : Nat) (x_images : Nat) (x_kept : Nat) (x_slots : Nat) (x_diary : Nat) (x_base : Nat) (x_trial : Nat) (x_plan : Nat) (x_orders : Nat) (x_unanswered : Nat) (t0 : Nat) (t1 : Nat) (t2 : Nat) (t3 : Nat) (t4 : Nat) (t5 : Nat) (t6 : Nat) (t7 : Nat) (t8 : Nat) (t9 : Nat) (a : Int32)  : Met l yX8_longest (.code yX8_longest cX8_longest 4 (some .int) :: ALLW) ({ frames := 1, cells := 0, slots := 0, locals := 21 }) (va_Pc [.ref h0, .int a] (fun U => U.heap.size = sz ∧ va_P (dC, dI) vwCl [(h0, .inr (8, [.ref x_tape, .ref x_reader, .ref x_current, .ref x_images, .ref x_kept, .ref x_slots, .ref x_diary, .ref x_base, .ref x_trial, .ref x_plan, .ref x_orders, .ref x_unanswered, .int 0, .int 0, .int (-1)])), (x_current, .inr (7, [.int 0, .int 0, .int 0, .int 0, .int 0, .int 0, .int 0, .int 0, .ref t0, .ref t1, .ref t2, .ref t3, .ref t4, .ref t5, .ref t6, .ref t7, .ref t8, .ref t9]))] U.heap ∧ va_K (dC, dI) vwCl [] U ∧ va_D (fun _ => True) [(h0, .inr (8, [.ref x_tape, .ref x_reader, .ref x_current, .ref x_images, .ref x_kept, .ref x_slots, .ref x_diary, .ref x_base, .ref x_trial, .ref x_plan, .ref x_orders, .ref x_unanswered, .int 0, .int 0, .int (-1)])), (x_current, .inr (7, [.int 0, .int 0, .int 0, .int 0, .int 0, .int 0, .int 0, .int 0, .ref t0, .ref t1, .ref t2, .ref t3, .ref t4, .ref t5, .ref t6, .ref t7, .ref t8, .ref t9]))])) (va_Qi (fun (r : Int32) (_ : Unit) => r = (-2)) (fun (_ : Unit) (_ : State) => True) (va_A [(h0, .inr (8, [.ref x_tape, .ref x_reader, .ref x_current, .ref x_images, .ref x_kept, .ref x_slots, .ref x_diary, .ref x_base, .ref x_trial, .ref x_plan, .ref x_orders, .ref x_unanswered, .int 0, .int 0, .int (-1)])), (x_current, .inr (7, [.int 0, .int 0, .int 0, .int 0, .int 0, .int 0, .int 0, .int 0, .ref t0, .ref t1, .ref t2, .ref t3, .ref t4, .ref t5, .ref t6, .ref t7, .ref t8, .ref t9]))] sz)) 0 0 (va_A [(h0, .inr (8, [.ref x_tape, .ref x_reader, .ref x_current, .ref x_images, .ref x_kept, .ref x_slots, .ref x_diary, .ref x_base, .ref x_trial, .ref x_plan, .ref x_orders, .ref x_unanswered, .int 0, .int 0, .int (-1)])), (x_current, .inr (7, [.int 0, .int 0, .int 0, .int 0, .int 0, .int 0, .int 0, .int 0, .ref t0, .ref t1, .ref t2, .ref t3, .ref t4, .ref t5, .ref t6, .ref t7, .ref t8, .ref t9]))] sz) := by
  refine Met.ofW (cc := cX8_longest) (maxL := 4) (ret := (some .int)) (by decide) rfl ?_
  intro p e s m args below meth c s₁ B hml hv
  obtain ⟨rfl, hsz, hP, hK, hD0⟩ := hv
  have hx := B.exec
  have hb := B.bytes
  have hr := B.returns
  have hts0 := atoms_spec (ws := (.code yX8_longest cX8_longest 4 (some .int) :: ALLW)) B.pre
  have hts := fun (w : Cond) (h : w ∈ ALLW) => hts0 w (List.mem_cons_of_mem _ h)
  have hown : s.vm.findClass RX8 = some m.cls := findClass_of_methodNamed B.named
  have hlocks := B.notSynchronized
  subst hsz
  have hD := hD0.self (sz := s.heap.size)
  generalize hAe : va_A [(h0, .inr (8, [.ref x_tape, .ref x_reader, .ref x_current, .ref x_images, .ref x_kept, .ref x_slots, .ref x_diary, .ref x_base, .ref x_trial, .ref x_plan, .ref x_orders, .ref x_unanswered, .int 0, .int 0, .int (-1)])), (x_current, .inr (7, [.int 0, .int 0, .int 0, .int 0, .int 0, .int 0, .int 0, .int 0, .ref t0, .ref t1, .ref t2, .ref t3, .ref t4, .ref t5, .ref t6, .ref t7, .ref t8, .ref t9]))] s.heap.size = A at hD ⊢
  have hA : ∀ q : Nat, s.heap.size ≤ q → A q := fun q h => by rw [← hAe]; exact Or.inr h
  have hS : va_S A s.heap s.heap [] := va_S.rf
  have hP : va_P (dC, dI) vwCl [(h0, .inr (8, [.ref x_tape, .ref x_reader, .ref x_current, .ref x_images, .ref x_kept, .ref x_slots, .ref x_diary, .ref x_base, .ref x_trial, .ref x_plan, .ref x_orders, .ref x_unanswered, .int 0, .int 0, .int (-1)])), (x_current, .inr (7, [.int 0, .int 0, .int 0, .int 0, .int 0, .int 0, .int 0, .int 0, .ref t0, .ref t1, .ref t2, .ref t3, .ref t4, .ref t5, .ref t6, .ref t7, .ref t8, .ref t9]))] s.heap := hP
  have hl := lv_entry ([.ref h0, .int a]) (n := 4) (Nat.le_of_ble_eq_true rfl)
  rw [lg_entry_eq]
  generalize (lg_sl ([.ref h0, .int a]) ++ List.replicate (4 - (lg_sl ([.ref h0, .int a])).length) Slot.unset).toArray = ls at hl ⊢
  have hl : lv_has ls 4 [(0, .ref h0), (1, .int a)] := hl
  refine lv_aload_n hx hb dX8_longest_0 rfl (lv_at hl 0 rfl) ?_
  refine va_get (D := (dC, dI)) (ci := 8) (v := .ref x_current) (C := RX8) (T := TX8) (N := 15) hx hb hts inA8 hown hK hP 0 rfl rfl 2 (by decide) (hts _ w_24) (fun _ h9 => h9) rfl dX8_longest_1 ?_
  refine lv_iload_n hx hb dX8_longest_4 rfl (lv_at hl 1 rfl) ?_
  have hPc := hP.sub (ws' := [(x_current, .inr (7, [.int 0, .int 0, .int 0, .int 0, .int 0, .int 0, .int 0, .int 0, .ref t0, .ref t1, .ref t2, .ref t3, .ref t4, .ref t5, .ref t6, .ref t7, .ref t8, .ref t9]))]) [1] rfl
  have hDc := hD.sub (ws' := [(x_current, .inr (7, [.int 0, .int 0, .int 0, .int 0, .int 0, .int 0, .int 0, .int 0, .ref t0, .ref t1, .ref t2, .ref t3, .ref t4, .ref t5, .ref t6, .ref t7, .ref t8, .ref t9]))]) [1] (by decide) rfl
  have hKc := hK.sub (tys' := []) [] rfl
  have hFc := va_free (wc := [(x_current, .inr (7, [.int 0, .int 0, .int 0, .int 0, .int 0, .int 0, .int 0, .int 0, .ref t0, .ref t1, .ref t2, .ref t3, .ref t4, .ref t5, .ref t6, .ref t7, .ref t8, .ref t9]))]) hD hS hA [1] rfl
  refine va_calli (va_runV (As := [.int a]) (rest := []) ⟨hx, hb, hml, hown, hts⟩ (c_isTold l dC dI s.heap.size x_current t0 t1 t2 t3 t4 t5 t6 t7 t8 t9 a ) (cwV 1 hts (goodV w_806 w_568 w_569 w_23 w_570) rfl rfl rfl hdV_X7_isTold ⟨Nat.le_of_ble_eq_true rfl, Nat.le_of_ble_eq_true rfl⟩) ⟨fun a U g mk q => by obtain ⟨q0, q1, qP, qK, qD⟩ := q; exact ⟨q0, q1, qP, va_K.moved (u := U) (U := U.calling g mk a) (Vm.Alike.refl U.vm) qK, qD⟩, va_recv hKc hPc (ci := 7) (q0 := 0) rfl rfl, fun U hU hW => ⟨rfl, by rw [hU], by rw [hU]; exact hPc, va_K.moved hW.alike hKc, hDc.weaken (fun _ _ _ _ => trivial)⟩⟩ rfl rfl hl.1 rfl (lv_room (Nat.le_of_ble_eq_true rfl)) dX8_longest_5 ⟨Nat.le_of_ble_eq_true rfl, Nat.le_of_ble_eq_true rfl⟩) hS (fun q _ h => hFc q h) hFc (fun r_1 u t H1 locs ht hvm hw hB hz1 hk1 hS => ?_)
  obtain ⟨hP1, hK1, hD1⟩ := hB
  rw [ht] at hP1
  have hK1 := va_K.moved hvm.symm hK1
  obtain ⟨hP, hD⟩ := va_join (wr := [(h0, .inr (8, [.ref x_tape, .ref x_reader, .ref x_current, .ref x_images, .ref x_kept, .ref x_slots, .ref x_diary, .ref x_base, .ref x_trial, .ref x_plan, .ref x_orders, .ref x_unanswered, .int 0, .int 0, .int (-1)]))]) (w1 := [(x_current, .inr (7, [.int 0, .int 0, .int 0, .int 0, .int 0, .int 0, .int 0, .int 0, .ref t0, .ref t1, .ref t2, .ref t3, .ref t4, .ref t5, .ref t6, .ref t7, .ref t8, .ref t9]))]) hP hD [1] [0] rfl rfl (by decide) (by decide) hk1 hFc hP1 hD1
  clear hPc hDc hKc hFc
  generalize H1 = H at hP hS ⊢
  have hP : va_P (dC, dI) vwCl [(h0, .inr (8, [.ref x_tape, .ref x_reader, .ref x_current, .ref x_images, .ref x_kept, .ref x_slots, .ref x_diary, .ref x_base, .ref x_trial, .ref x_plan, .ref x_orders, .ref x_unanswered, .int 0, .int 0, .int (-1)])), (x_current, .inr (7, [.int 0, .int 0, .int 0, .int 0, .int 0, .int 0, .int 0, .int 0, .ref t0, .ref t1, .ref t2, .ref t3, .ref t4, .ref t5, .ref t6, .ref t7, .ref t8, .ref t9]))] H := hP
  have hD : va_D A [(h0, .inr (8, [.ref x_tape, .ref x_reader, .ref x_current, .ref x_images, .ref x_kept, .ref x_slots, .ref x_diary, .ref x_base, .ref x_trial, .ref x_plan, .ref x_orders, .ref x_unanswered, .int 0, .int 0, .int (-1)])), (x_current, .inr (7, [.int 0, .int 0, .int 0, .int 0, .int 0, .int 0, .int 0, .int 0, .ref t0, .ref t1, .ref t2, .ref t3, .ref t4, .ref t5, .ref t6, .ref t7, .ref t8, .ref t9]))] := hD
  have hw : r_1 = 0 := hw
  subst hw
  refine lv_if_ne (tgt := 14) hx hb dX8_longest_8 (by decide) (fun c_2 => absurd (by decide) c_2) (fun c_2 => ?_)
  refine lv_bipush (v := (-2)) hx hb dX8_longest_11 (by decide) ?_
  exact W.iret (v := (-2)) hx hb hr (fun t ht hW => ⟨⟨(-2), (), rfl, rfl, trivial⟩, hS.F ht⟩) hS.2.2 dX8_longest_13
set_option maxHeartbeats 4000000 in
set_option maxRecDepth 100000 in
theorem x_just (l : Launch) (dC : Nat → ClassId) (dI : Nat → Nat → Nat) (sz : Nat) (h0 : Nat) (x_tape : Nat) (x_reader : Nat) (x_current : Nat) (x_images : Nat) (x_kept : Nat) (x_slots : Nat) (x_diary : Nat) (x_base : Nat) (x_trial : Nat) (x_plan : Nat) (x_orders : Nat) (x_unanswered : Nat) (t0 : Nat) (t1 : Nat) (t2 : Nat) (t3 : Nat) (t4 : Nat) (t5 : Nat) (t6 : Nat) (t7 : Nat) (t8 : Nat) (t9 : Nat) (a : Int32) (b : Int32) (d_ : Int32)  : Met l yX8_just (.code yX8_just cX8_just 6 (some .int) :: ALLW) ({ frames := 1, cells := 0, slots := 0, locals := 21 }) (va_Pc [.ref h0, .int a, .int b, .int d_] (fun U => U.heap.size = sz ∧ va_P (dC, dI) vwCl [(h0, .inr (8, [.ref x_tape, .ref x_reader, .ref x_current, .ref x_images, .ref x_kept, .ref x_slots, .ref x_diary, .ref x_base, .ref x_trial, .ref x_plan, .ref x_orders, .ref x_unanswered, .int 0, .int 0, .int (-1)])), (x_current, .inr (7, [.int 0, .int 0, .int 0, .int 0, .int 0, .int 0, .int 0, .int 0, .ref t0, .ref t1, .ref t2, .ref t3, .ref t4, .ref t5, .ref t6, .ref t7, .ref t8, .ref t9]))] U.heap ∧ va_K (dC, dI) vwCl [] U ∧ va_D (fun _ => True) [(h0, .inr (8, [.ref x_tape, .ref x_reader, .ref x_current, .ref x_images, .ref x_kept, .ref x_slots, .ref x_diary, .ref x_base, .ref x_trial, .ref x_plan, .ref x_orders, .ref x_unanswered, .int 0, .int 0, .int (-1)])), (x_current, .inr (7, [.int 0, .int 0, .int 0, .int 0, .int 0, .int 0, .int 0, .int 0, .ref t0, .ref t1, .ref t2, .ref t3, .ref t4, .ref t5, .ref t6, .ref t7, .ref t8, .ref t9]))])) (va_Qi (fun (r : Int32) (_ : Unit) => r = (-2)) (fun (_ : Unit) (_ : State) => True) (va_A [(h0, .inr (8, [.ref x_tape, .ref x_reader, .ref x_current, .ref x_images, .ref x_kept, .ref x_slots, .ref x_diary, .ref x_base, .ref x_trial, .ref x_plan, .ref x_orders, .ref x_unanswered, .int 0, .int 0, .int (-1)])), (x_current, .inr (7, [.int 0, .int 0, .int 0, .int 0, .int 0, .int 0, .int 0, .int 0, .ref t0, .ref t1, .ref t2, .ref t3, .ref t4, .ref t5, .ref t6, .ref t7, .ref t8, .ref t9]))] sz)) 0 0 (va_A [(h0, .inr (8, [.ref x_tape, .ref x_reader, .ref x_current, .ref x_images, .ref x_kept, .ref x_slots, .ref x_diary, .ref x_base, .ref x_trial, .ref x_plan, .ref x_orders, .ref x_unanswered, .int 0, .int 0, .int (-1)])), (x_current, .inr (7, [.int 0, .int 0, .int 0, .int 0, .int 0, .int 0, .int 0, .int 0, .ref t0, .ref t1, .ref t2, .ref t3, .ref t4, .ref t5, .ref t6, .ref t7, .ref t8, .ref t9]))] sz) := by
  refine Met.ofW (cc := cX8_just) (maxL := 6) (ret := (some .int)) (by decide) rfl ?_
  intro p e s m args below meth c s₁ B hml hv
  obtain ⟨rfl, hsz, hP, hK, hD0⟩ := hv
  have hx := B.exec
  have hb := B.bytes
  have hr := B.returns
  have hts0 := atoms_spec (ws := (.code yX8_just cX8_just 6 (some .int) :: ALLW)) B.pre
  have hts := fun (w : Cond) (h : w ∈ ALLW) => hts0 w (List.mem_cons_of_mem _ h)
  have hown : s.vm.findClass RX8 = some m.cls := findClass_of_methodNamed B.named
  have hlocks := B.notSynchronized
  subst hsz
  have hD := hD0.self (sz := s.heap.size)
  generalize hAe : va_A [(h0, .inr (8, [.ref x_tape, .ref x_reader, .ref x_current, .ref x_images, .ref x_kept, .ref x_slots, .ref x_diary, .ref x_base, .ref x_trial, .ref x_plan, .ref x_orders, .ref x_unanswered, .int 0, .int 0, .int (-1)])), (x_current, .inr (7, [.int 0, .int 0, .int 0, .int 0, .int 0, .int 0, .int 0, .int 0, .ref t0, .ref t1, .ref t2, .ref t3, .ref t4, .ref t5, .ref t6, .ref t7, .ref t8, .ref t9]))] s.heap.size = A at hD ⊢
  have hA : ∀ q : Nat, s.heap.size ≤ q → A q := fun q h => by rw [← hAe]; exact Or.inr h
  have hS : va_S A s.heap s.heap [] := va_S.rf
  have hP : va_P (dC, dI) vwCl [(h0, .inr (8, [.ref x_tape, .ref x_reader, .ref x_current, .ref x_images, .ref x_kept, .ref x_slots, .ref x_diary, .ref x_base, .ref x_trial, .ref x_plan, .ref x_orders, .ref x_unanswered, .int 0, .int 0, .int (-1)])), (x_current, .inr (7, [.int 0, .int 0, .int 0, .int 0, .int 0, .int 0, .int 0, .int 0, .ref t0, .ref t1, .ref t2, .ref t3, .ref t4, .ref t5, .ref t6, .ref t7, .ref t8, .ref t9]))] s.heap := hP
  have hl := lv_entry ([.ref h0, .int a, .int b, .int d_]) (n := 6) (Nat.le_of_ble_eq_true rfl)
  rw [lg_entry_eq]
  generalize (lg_sl ([.ref h0, .int a, .int b, .int d_]) ++ List.replicate (6 - (lg_sl ([.ref h0, .int a, .int b, .int d_])).length) Slot.unset).toArray = ls at hl ⊢
  have hl : lv_has ls 6 [(0, .ref h0), (1, .int a), (2, .int b), (3, .int d_)] := hl
  refine lv_aload_n hx hb dX8_just_0 rfl (lv_at hl 0 rfl) ?_
  refine va_get (D := (dC, dI)) (ci := 8) (v := .ref x_current) (C := RX8) (T := TX8) (N := 15) hx hb hts inA8 hown hK hP 0 rfl rfl 2 (by decide) (hts _ w_24) (fun _ h9 => h9) rfl dX8_just_1 ?_
  refine lv_iload_n hx hb dX8_just_4 rfl (lv_at hl 1 rfl) ?_
  have hPc := hP.sub (ws' := [(x_current, .inr (7, [.int 0, .int 0, .int 0, .int 0, .int 0, .int 0, .int 0, .int 0, .ref t0, .ref t1, .ref t2, .ref t3, .ref t4, .ref t5, .ref t6, .ref t7, .ref t8, .ref t9]))]) [1] rfl
  have hDc := hD.sub (ws' := [(x_current, .inr (7, [.int 0, .int 0, .int 0, .int 0, .int 0, .int 0, .int 0, .int 0, .ref t0, .ref t1, .ref t2, .ref t3, .ref t4, .ref t5, .ref t6, .ref t7, .ref t8, .ref t9]))]) [1] (by decide) rfl
  have hKc := hK.sub (tys' := []) [] rfl
  have hFc := va_free (wc := [(x_current, .inr (7, [.int 0, .int 0, .int 0, .int 0, .int 0, .int 0, .int 0, .int 0, .ref t0, .ref t1, .ref t2, .ref t3, .ref t4, .ref t5, .ref t6, .ref t7, .ref t8, .ref t9]))]) hD hS hA [1] rfl
  refine va_calli (va_runV (As := [.int a]) (rest := []) ⟨hx, hb, hml, hown, hts⟩ (c_isTold l dC dI s.heap.size x_current t0 t1 t2 t3 t4 t5 t6 t7 t8 t9 a ) (cwV 1 hts (goodV w_806 w_568 w_569 w_23 w_570) rfl rfl rfl hdV_X7_isTold ⟨Nat.le_of_ble_eq_true rfl, Nat.le_of_ble_eq_true rfl⟩) ⟨fun a U g mk q => by obtain ⟨q0, q1, qP, qK, qD⟩ := q; exact ⟨q0, q1, qP, va_K.moved (u := U) (U := U.calling g mk a) (Vm.Alike.refl U.vm) qK, qD⟩, va_recv hKc hPc (ci := 7) (q0 := 0) rfl rfl, fun U hU hW => ⟨rfl, by rw [hU], by rw [hU]; exact hPc, va_K.moved hW.alike hKc, hDc.weaken (fun _ _ _ _ => trivial)⟩⟩ rfl rfl hl.1 rfl (lv_room (Nat.le_of_ble_eq_true rfl)) dX8_just_5 ⟨Nat.le_of_ble_eq_true rfl, Nat.le_of_ble_eq_true rfl⟩) hS (fun q _ h => hFc q h) hFc (fun r_1 u t H1 locs ht hvm hw hB hz1 hk1 hS => ?_)
  obtain ⟨hP1, hK1, hD1⟩ := hB
  rw [ht] at hP1
  have hK1 := va_K.moved hvm.symm hK1
  obtain ⟨hP, hD⟩ := va_join (wr := [(h0, .inr (8, [.ref x_tape, .ref x_reader, .ref x_current, .ref x_images, .ref x_kept, .ref x_slots, .ref x_diary, .ref x_base, .ref x_trial, .ref x_plan, .ref x_orders, .ref x_unanswered, .int 0, .int 0, .int (-1)]))]) (w1 := [(x_current, .inr (7, [.int 0, .int 0, .int 0, .int 0, .int 0, .int 0, .int 0, .int 0, .ref t0, .ref t1, .ref t2, .ref t3, .ref t4, .ref t5, .ref t6, .ref t7, .ref t8, .ref t9]))]) hP hD [1] [0] rfl rfl (by decide) (by decide) hk1 hFc hP1 hD1
  clear hPc hDc hKc hFc
  generalize H1 = H at hP hS ⊢
  have hP : va_P (dC, dI) vwCl [(h0, .inr (8, [.ref x_tape, .ref x_reader, .ref x_current, .ref x_images, .ref x_kept, .ref x_slots, .ref x_diary, .ref x_base, .ref x_trial, .ref x_plan, .ref x_orders, .ref x_unanswered, .int 0, .int 0, .int (-1)])), (x_current, .inr (7, [.int 0, .int 0, .int 0, .int 0, .int 0, .int 0, .int 0, .int 0, .ref t0, .ref t1, .ref t2, .ref t3, .ref t4, .ref t5, .ref t6, .ref t7, .ref t8, .ref t9]))] H := hP
  have hD : va_D A [(h0, .inr (8, [.ref x_tape, .ref x_reader, .ref x_current, .ref x_images, .ref x_kept, .ref x_slots, .ref x_diary, .ref x_base, .ref x_trial, .ref x_plan, .ref x_orders, .ref x_unanswered, .int 0, .int 0, .int (-1)])), (x_current, .inr (7, [.int 0, .int 0, .int 0, .int 0, .int 0, .int 0, .int 0, .int 0, .ref t0, .ref t1, .ref t2, .ref t3, .ref t4, .ref t5, .ref t6, .ref t7, .ref t8, .ref t9]))] := hD
  have hw : r_1 = 0 := hw
  subst hw
  refine lv_if_eq (tgt := 31) hx hb dX8_just_8 (by decide) (fun c_2 => ?_) (fun c_2 => absurd (by decide) c_2)
  refine lv_bipush (v := (-2)) hx hb dX8_just_31 (by decide) ?_
  exact W.iret (v := (-2)) hx hb hr (fun t ht hW => ⟨⟨(-2), (), rfl, rfl, trivial⟩, hS.F ht⟩) hS.2.2 dX8_just_33
set_option maxHeartbeats 4000000 in
set_option maxRecDepth 100000 in
theorem x_stop (l : Launch) (dC : Nat → ClassId) (dI : Nat → Nat → Nat) (sz : Nat) (h0 : Nat) (x_tape : Nat) (x_reader : Nat) (x_current : Nat) (x_images : Nat) (x_kept : Nat) (x_slots : Nat) (x_diary : Nat) (x_base : Nat) (x_trial : Nat) (x_plan : Nat) (x_orders : Nat) (x_unanswered : Nat) (t0 : Nat) (t1 : Nat) (t2 : Nat) (t3 : Nat) (t4 : Nat) (t5 : Nat) (t6 : Nat) (t7 : Nat) (t8 : Nat) (t9 : Nat) (a : Int32) (b : Int32) (d_ : Int32) (g_ : Int32) (w_ : Int32)  : Met l yX8_stop (.code yX8_stop cX8_stop 12 (some .int) :: ALLW) ({ frames := 2, cells := 0, slots := 0, locals := 44 }) (va_Pc [.ref h0, .int a, .int b, .int d_, .int g_, .int w_] (fun U => U.heap.size = sz ∧ va_P (dC, dI) vwCl [(h0, .inr (8, [.ref x_tape, .ref x_reader, .ref x_current, .ref x_images, .ref x_kept, .ref x_slots, .ref x_diary, .ref x_base, .ref x_trial, .ref x_plan, .ref x_orders, .ref x_unanswered, .int 0, .int 0, .int (-1)])), (x_current, .inr (7, [.int 0, .int 0, .int 0, .int 0, .int 0, .int 0, .int 0, .int 0, .ref t0, .ref t1, .ref t2, .ref t3, .ref t4, .ref t5, .ref t6, .ref t7, .ref t8, .ref t9]))] U.heap ∧ va_K (dC, dI) vwCl [] U ∧ va_D (fun _ => True) [(h0, .inr (8, [.ref x_tape, .ref x_reader, .ref x_current, .ref x_images, .ref x_kept, .ref x_slots, .ref x_diary, .ref x_base, .ref x_trial, .ref x_plan, .ref x_orders, .ref x_unanswered, .int 0, .int 0, .int (-1)])), (x_current, .inr (7, [.int 0, .int 0, .int 0, .int 0, .int 0, .int 0, .int 0, .int 0, .ref t0, .ref t1, .ref t2, .ref t3, .ref t4, .ref t5, .ref t6, .ref t7, .ref t8, .ref t9]))])) (va_Qi (fun (r : Int32) (_ : Unit) => r = (-2)) (fun (_ : Unit) (_ : State) => True) (va_A [(h0, .inr (8, [.ref x_tape, .ref x_reader, .ref x_current, .ref x_images, .ref x_kept, .ref x_slots, .ref x_diary, .ref x_base, .ref x_trial, .ref x_plan, .ref x_orders, .ref x_unanswered, .int 0, .int 0, .int (-1)])), (x_current, .inr (7, [.int 0, .int 0, .int 0, .int 0, .int 0, .int 0, .int 0, .int 0, .ref t0, .ref t1, .ref t2, .ref t3, .ref t4, .ref t5, .ref t6, .ref t7, .ref t8, .ref t9]))] sz)) 0 0 (va_A [(h0, .inr (8, [.ref x_tape, .ref x_reader, .ref x_current, .ref x_images, .ref x_kept, .ref x_slots, .ref x_diary, .ref x_base, .ref x_trial, .ref x_plan, .ref x_orders, .ref x_unanswered, .int 0, .int 0, .int (-1)])), (x_current, .inr (7, [.int 0, .int 0, .int 0, .int 0, .int 0, .int 0, .int 0, .int 0, .ref t0, .ref t1, .ref t2, .ref t3, .ref t4, .ref t5, .ref t6, .ref t7, .ref t8, .ref t9]))] sz) := by
  refine Met.ofW (cc := cX8_stop) (maxL := 12) (ret := (some .int)) (by decide) rfl ?_
  intro p e s m args below meth c s₁ B hml hv
  obtain ⟨rfl, hsz, hP, hK, hD0⟩ := hv
  have hx := B.exec
  have hb := B.bytes
  have hr := B.returns
  have hts0 := atoms_spec (ws := (.code yX8_stop cX8_stop 12 (some .int) :: ALLW)) B.pre
  have hts := fun (w : Cond) (h : w ∈ ALLW) => hts0 w (List.mem_cons_of_mem _ h)
  have hown : s.vm.findClass RX8 = some m.cls := findClass_of_methodNamed B.named
  have hlocks := B.notSynchronized
  subst hsz
  have hD := hD0.self (sz := s.heap.size)
  generalize hAe : va_A [(h0, .inr (8, [.ref x_tape, .ref x_reader, .ref x_current, .ref x_images, .ref x_kept, .ref x_slots, .ref x_diary, .ref x_base, .ref x_trial, .ref x_plan, .ref x_orders, .ref x_unanswered, .int 0, .int 0, .int (-1)])), (x_current, .inr (7, [.int 0, .int 0, .int 0, .int 0, .int 0, .int 0, .int 0, .int 0, .ref t0, .ref t1, .ref t2, .ref t3, .ref t4, .ref t5, .ref t6, .ref t7, .ref t8, .ref t9]))] s.heap.size = A at hD ⊢
  have hA : ∀ q : Nat, s.heap.size ≤ q → A q := fun q h => by rw [← hAe]; exact Or.inr h
  have hS : va_S A s.heap s.heap [] := va_S.rf
  have hP : va_P (dC, dI) vwCl [(h0, .inr (8, [.ref x_tape, .ref x_reader, .ref x_current, .ref x_images, .ref x_kept, .ref x_slots, .ref x_diary, .ref x_base, .ref x_trial, .ref x_plan, .ref x_orders, .ref x_unanswered, .int 0, .int 0, .int (-1)])), (x_current, .inr (7, [.int 0, .int 0, .int 0, .int 0, .int 0, .int 0, .int 0, .int 0, .ref t0, .ref t1, .ref t2, .ref t3, .ref t4, .ref t5, .ref t6, .ref t7, .ref t8, .ref t9]))] s.heap := hP
  have hl := lv_entry ([.ref h0, .int a, .int b, .int d_, .int g_, .int w_]) (n := 12) (Nat.le_of_ble_eq_true rfl)
  rw [lg_entry_eq]
  generalize (lg_sl ([.ref h0, .int a, .int b, .int d_, .int g_, .int w_]) ++ List.replicate (12 - (lg_sl ([.ref h0, .int a, .int b, .int d_, .int g_, .int w_])).length) Slot.unset).toArray = ls at hl ⊢
  have hl : lv_has ls 12 [(0, .ref h0), (1, .int a), (2, .int b), (3, .int d_), (4, .int g_), (5, .int w_)] := hl
  refine lv_aload_n hx hb dX8_stop_0 rfl (lv_at hl 0 rfl) ?_
  refine lv_iload_n hx hb dX8_stop_1 rfl (lv_at hl 1 rfl) ?_
  refine lv_iload_n hx hb dX8_stop_2 rfl (lv_at hl 2 rfl) ?_
  refine lv_iload_n hx hb dX8_stop_3 rfl (lv_at hl 3 rfl) ?_
  have hPc := hP.sub (ws' := [(h0, .inr (8, [.ref x_tape, .ref x_reader, .ref x_current, .ref x_images, .ref x_kept, .ref x_slots, .ref x_diary, .ref x_base, .ref x_trial, .ref x_plan, .ref x_orders, .ref x_unanswered, .int 0, .int 0, .int (-1)])), (x_current, .inr (7, [.int 0, .int 0, .int 0, .int 0, .int 0, .int 0, .int 0, .int 0, .ref t0, .ref t1, .ref t2, .ref t3, .ref t4, .ref t5, .ref t6, .ref t7, .ref t8, .ref t9]))]) [0, 1] rfl
  have hDc := hD.sub (ws' := [(h0, .inr (8, [.ref x_tape, .ref x_reader, .ref x_current, .ref x_images, .ref x_kept, .ref x_slots, .ref x_diary, .ref x_base, .ref x_trial, .ref x_plan, .ref x_orders, .ref x_unanswered, .int 0, .int 0, .int (-1)])), (x_current, .inr (7, [.int 0, .int 0, .int 0, .int 0, .int 0, .int 0, .int 0, .int 0, .ref t0, .ref t1, .ref t2, .ref t3, .ref t4, .ref t5, .ref t6, .ref t7, .ref t8, .ref t9]))]) [0, 1] (by decide) rfl
  have hKc := hK.sub (tys' := []) [] rfl
  have hFc := va_free (wc := [(h0, .inr (8, [.ref x_tape, .ref x_reader, .ref x_current, .ref x_images, .ref x_kept, .ref x_slots, .ref x_diary, .ref x_base, .ref x_trial, .ref x_plan, .ref x_orders, .ref x_unanswered, .int 0, .int 0, .int (-1)])), (x_current, .inr (7, [.int 0, .int 0, .int 0, .int 0, .int 0, .int 0, .int 0, .int 0, .ref t0, .ref t1, .ref t2, .ref t3, .ref t4, .ref t5, .ref t6, .ref t7, .ref t8, .ref t9]))]) hD hS hA [0, 1] rfl
  refine va_calli (va_runV (As := [.int a, .int b, .int d_]) (rest := []) ⟨hx, hb, hml, hown, hts⟩ (c_isLetterMore l dC dI s.heap.size h0 x_tape x_reader x_current x_images x_kept x_slots x_diary x_base x_trial x_plan x_orders x_unanswered t0 t1 t2 t3 t4 t5 t6 t7 t8 t9 a b d_ ) (cwV 3 hts (goodV w_1159 w_1160 w_1161 w_2 w_1162) rfl rfl rfl hdV_X8_isLetterMore ⟨Nat.le_of_ble_eq_true rfl, Nat.le_of_ble_eq_true rfl⟩) ⟨fun a U g mk q => by obtain ⟨q0, q1, qP, qK, qD⟩ := q; exact ⟨q0, q1, qP, va_K.moved (u := U) (U := U.calling g mk a) (Vm.Alike.refl U.vm) qK, qD⟩, va_recv hKc hPc (ci := 8) (q0 := 0) rfl rfl, fun U hU hW => ⟨rfl, by rw [hU], by rw [hU]; exact hPc, va_K.moved hW.alike hKc, hDc.weaken (fun _ _ _ _ => trivial)⟩⟩ rfl rfl hl.1 rfl (lv_room (Nat.le_of_ble_eq_true rfl)) dX8_stop_4 ⟨Nat.le_of_ble_eq_true rfl, Nat.le_of_ble_eq_true rfl⟩) hS (fun q _ h => hFc q h) hFc (fun r_1 u t H1 locs ht hvm hw hB hz1 hk1 hS => ?_)
  obtain ⟨hP1, hK1, hD1⟩ := hB
  rw [ht] at hP1
  have hK1 := va_K.moved hvm.symm hK1
  obtain ⟨hP, hD⟩ := va_join (wr := []) (w1 := [(h0, .inr (8, [.ref x_tape, .ref x_reader, .ref x_current, .ref x_images, .ref x_kept, .ref x_slots, .ref x_diary, .ref x_base, .ref x_trial, .ref x_plan, .ref x_orders, .ref x_unanswered, .int 0, .int 0, .int (-1)])), (x_current, .inr (7, [.int 0, .int 0, .int 0, .int 0, .int 0, .int 0, .int 0, .int 0, .ref t0, .ref t1, .ref t2, .ref t3, .ref t4, .ref t5, .ref t6, .ref t7, .ref t8, .ref t9]))]) hP hD [0, 1] [] rfl rfl (by decide) (by decide) hk1 hFc hP1 hD1
  clear hPc hDc hKc hFc
  generalize H1 = H at hP hS ⊢
  have hP : va_P (dC, dI) vwCl [(h0, .inr (8, [.ref x_tape, .ref x_reader, .ref x_current, .ref x_images, .ref x_kept, .ref x_slots, .ref x_diary, .ref x_base, .ref x_trial, .ref x_plan, .ref x_orders, .ref x_unanswered, .int 0, .int 0, .int (-1)])), (x_current, .inr (7, [.int 0, .int 0, .int 0, .int 0, .int 0, .int 0, .int 0, .int 0, .ref t0, .ref t1, .ref t2, .ref t3, .ref t4, .ref t5, .ref t6, .ref t7, .ref t8, .ref t9]))] H := hP
  have hD : va_D A [(h0, .inr (8, [.ref x_tape, .ref x_reader, .ref x_current, .ref x_images, .ref x_kept, .ref x_slots, .ref x_diary, .ref x_base, .ref x_trial, .ref x_plan, .ref x_orders, .ref x_unanswered, .int 0, .int 0, .int (-1)])), (x_current, .inr (7, [.int 0, .int 0, .int 0, .int 0, .int 0, .int 0, .int 0, .int 0, .ref t0, .ref t1, .ref t2, .ref t3, .ref t4, .ref t5, .ref t6, .ref t7, .ref t8, .ref t9]))] := hD
  have hw : r_1 = 0 := hw
  subst hw
  refine lv_if_eq (tgt := 34) hx hb dX8_stop_7 (by decide) (fun c_2 => ?_) (fun c_2 => absurd (by decide) c_2)
  refine lv_bipush (v := (-2)) hx hb dX8_stop_34 (by decide) ?_
  exact W.iret (v := (-2)) hx hb hr (fun t ht hW => ⟨⟨(-2), (), rfl, rfl, trivial⟩, hS.F ht⟩) hS.2.2 dX8_stop_36
set_option maxHeartbeats 4000000 in
set_option maxRecDepth 100000 in
theorem x_hold (l : Launch) (dC : Nat → ClassId) (dI : Nat → Nat → Nat) (sz : Nat) (h0 : Nat) (x_tape : Nat) (x_reader : Nat) (x_current : Nat) (x_images : Nat) (x_kept : Nat) (x_slots : Nat) (x_diary : Nat) (x_base : Nat) (x_trial : Nat) (x_plan : Nat) (x_orders : Nat) (x_unanswered : Nat) (t0 : Nat) (t1 : Nat) (t2 : Nat) (t3 : Nat) (t4 : Nat) (t5 : Nat) (t6 : Nat) (t7 : Nat) (t8 : Nat) (t9 : Nat) (a : Int32) (b : Int32) (d_ : Int32) (g_ : Int32) (w_ : Int32)  : Met l yX8_hold (.code yX8_hold cX8_hold 7 (some .int) :: ALLW) ({ frames := 2, cells := 0, slots := 0, locals := 44 }) (va_Pc [.ref h0, .int a, .int b, .int d_, .int g_, .int w_] (fun U => U.heap.size = sz ∧ va_P (dC, dI) vwCl [(h0, .inr (8, [.ref x_tape, .ref x_reader, .ref x_current, .ref x_images, .ref x_kept, .ref x_slots, .ref x_diary, .ref x_base, .ref x_trial, .ref x_plan, .ref x_orders, .ref x_unanswered, .int 0, .int 0, .int (-1)])), (x_current, .inr (7, [.int 0, .int 0, .int 0, .int 0, .int 0, .int 0, .int 0, .int 0, .ref t0, .ref t1, .ref t2, .ref t3, .ref t4, .ref t5, .ref t6, .ref t7, .ref t8, .ref t9]))] U.heap ∧ va_K (dC, dI) vwCl [] U ∧ va_D (fun _ => True) [(h0, .inr (8, [.ref x_tape, .ref x_reader, .ref x_current, .ref x_images, .ref x_kept, .ref x_slots, .ref x_diary, .ref x_base, .ref x_trial, .ref x_plan, .ref x_orders, .ref x_unanswered, .int 0, .int 0, .int (-1)])), (x_current, .inr (7, [.int 0, .int 0, .int 0, .int 0, .int 0, .int 0, .int 0, .int 0, .ref t0, .ref t1, .ref t2, .ref t3, .ref t4, .ref t5, .ref t6, .ref t7, .ref t8, .ref t9]))])) (va_Qi (fun (r : Int32) (_ : Unit) => r = (-2)) (fun (_ : Unit) (_ : State) => True) (va_A [(h0, .inr (8, [.ref x_tape, .ref x_reader, .ref x_current, .ref x_images, .ref x_kept, .ref x_slots, .ref x_diary, .ref x_base, .ref x_trial, .ref x_plan, .ref x_orders, .ref x_unanswered, .int 0, .int 0, .int (-1)])), (x_current, .inr (7, [.int 0, .int 0, .int 0, .int 0, .int 0, .int 0, .int 0, .int 0, .ref t0, .ref t1, .ref t2, .ref t3, .ref t4, .ref t5, .ref t6, .ref t7, .ref t8, .ref t9]))] sz)) 0 0 (va_A [(h0, .inr (8, [.ref x_tape, .ref x_reader, .ref x_current, .ref x_images, .ref x_kept, .ref x_slots, .ref x_diary, .ref x_base, .ref x_trial, .ref x_plan, .ref x_orders, .ref x_unanswered, .int 0, .int 0, .int (-1)])), (x_current, .inr (7, [.int 0, .int 0, .int 0, .int 0, .int 0, .int 0, .int 0, .int 0, .ref t0, .ref t1, .ref t2, .ref t3, .ref t4, .ref t5, .ref t6, .ref t7, .ref t8, .ref t9]))] sz) := by
  refine Met.ofW (cc := cX8_hold) (maxL := 7) (ret := (some .int)) (by decide) rfl ?_
  intro p e s m args below meth c s₁ B hml hv
  obtain ⟨rfl, hsz, hP, hK, hD0⟩ := hv
  have hx := B.exec
  have hb := B.bytes
  have hr := B.returns
  have hts0 := atoms_spec (ws := (.code yX8_hold cX8_hold 7 (some .int) :: ALLW)) B.pre
  have hts := fun (w : Cond) (h : w ∈ ALLW) => hts0 w (List.mem_cons_of_mem _ h)
  have hown : s.vm.findClass RX8 = some m.cls := findClass_of_methodNamed B.named
  have hlocks := B.notSynchronized
  subst hsz
  have hD := hD0.self (sz := s.heap.size)
  generalize hAe : va_A [(h0, .inr (8, [.ref x_tape, .ref x_reader, .ref x_current, .ref x_images, .ref x_kept, .ref x_slots, .ref x_diary, .ref x_base, .ref x_trial, .ref x_plan, .ref x_orders, .ref x_unanswered, .int 0, .int 0, .int (-1)])), (x_current, .inr (7, [.int 0, .int 0, .int 0, .int 0, .int 0, .int 0, .int 0, .int 0, .ref t0, .ref t1, .ref t2, .ref t3, .ref t4, .ref t5, .ref t6, .ref t7, .ref t8, .ref t9]))] s.heap.size = A at hD ⊢
  have hA : ∀ q : Nat, s.heap.size ≤ q → A q := fun q h => by rw [← hAe]; exact Or.inr h
  have hS : va_S A s.heap s.heap [] := va_S.rf
  have hP : va_P (dC, dI) vwCl [(h0, .inr (8, [.ref x_tape, .ref x_reader, .ref x_current, .ref x_images, .ref x_kept, .ref x_slots, .ref x_diary, .ref x_base, .ref x_trial, .ref x_plan, .ref x_orders, .ref x_unanswered, .int 0, .int 0, .int (-1)])), (x_current, .inr (7, [.int 0, .int 0, .int 0, .int 0, .int 0, .int 0, .int 0, .int 0, .ref t0, .ref t1, .ref t2, .ref t3, .ref t4, .ref t5, .ref t6, .ref t7, .ref t8, .ref t9]))] s.heap := hP
  have hl := lv_entry ([.ref h0, .int a, .int b, .int d_, .int g_, .int w_]) (n := 7) (Nat.le_of_ble_eq_true rfl)
  rw [lg_entry_eq]
  generalize (lg_sl ([.ref h0, .int a, .int b, .int d_, .int g_, .int w_]) ++ List.replicate (7 - (lg_sl ([.ref h0, .int a, .int b, .int d_, .int g_, .int w_])).length) Slot.unset).toArray = ls at hl ⊢
  have hl : lv_has ls 7 [(0, .ref h0), (1, .int a), (2, .int b), (3, .int d_), (4, .int g_), (5, .int w_)] := hl
  refine lv_aload_n hx hb dX8_hold_0 rfl (lv_at hl 0 rfl) ?_
  refine lv_iload_n hx hb dX8_hold_1 rfl (lv_at hl 1 rfl) ?_
  refine lv_iload_n hx hb dX8_hold_2 rfl (lv_at hl 2 rfl) ?_
  refine lv_iload_n hx hb dX8_hold_3 rfl (lv_at hl 3 rfl) ?_
  have hPc := hP.sub (ws' := [(h0, .inr (8, [.ref x_tape, .ref x_reader, .ref x_current, .ref x_images, .ref x_kept, .ref x_slots, .ref x_diary, .ref x_base, .ref x_trial, .ref x_plan, .ref x_orders, .ref x_unanswered, .int 0, .int 0, .int (-1)])), (x_current, .inr (7, [.int 0, .int 0, .int 0, .int 0, .int 0, .int 0, .int 0, .int 0, .ref t0, .ref t1, .ref t2, .ref t3, .ref t4, .ref t5, .ref t6, .ref t7, .ref t8, .ref t9]))]) [0, 1] rfl
  have hDc := hD.sub (ws' := [(h0, .inr (8, [.ref x_tape, .ref x_reader, .ref x_current, .ref x_images, .ref x_kept, .ref x_slots, .ref x_diary, .ref x_base, .ref x_trial, .ref x_plan, .ref x_orders, .ref x_unanswered, .int 0, .int 0, .int (-1)])), (x_current, .inr (7, [.int 0, .int 0, .int 0, .int 0, .int 0, .int 0, .int 0, .int 0, .ref t0, .ref t1, .ref t2, .ref t3, .ref t4, .ref t5, .ref t6, .ref t7, .ref t8, .ref t9]))]) [0, 1] (by decide) rfl
  have hKc := hK.sub (tys' := []) [] rfl
  have hFc := va_free (wc := [(h0, .inr (8, [.ref x_tape, .ref x_reader, .ref x_current, .ref x_images, .ref x_kept, .ref x_slots, .ref x_diary, .ref x_base, .ref x_trial, .ref x_plan, .ref x_orders, .ref x_unanswered, .int 0, .int 0, .int (-1)])), (x_current, .inr (7, [.int 0, .int 0, .int 0, .int 0, .int 0, .int 0, .int 0, .int 0, .ref t0, .ref t1, .ref t2, .ref t3, .ref t4, .ref t5, .ref t6, .ref t7, .ref t8, .ref t9]))]) hD hS hA [0, 1] rfl
  refine va_calli (va_runV (As := [.int a, .int b, .int d_]) (rest := []) ⟨hx, hb, hml, hown, hts⟩ (c_isLetterMore l dC dI s.heap.size h0 x_tape x_reader x_current x_images x_kept x_slots x_diary x_base x_trial x_plan x_orders x_unanswered t0 t1 t2 t3 t4 t5 t6 t7 t8 t9 a b d_ ) (cwV 3 hts (goodV w_1159 w_1160 w_1161 w_2 w_1162) rfl rfl rfl hdV_X8_isLetterMore ⟨Nat.le_of_ble_eq_true rfl, Nat.le_of_ble_eq_true rfl⟩) ⟨fun a U g mk q => by obtain ⟨q0, q1, qP, qK, qD⟩ := q; exact ⟨q0, q1, qP, va_K.moved (u := U) (U := U.calling g mk a) (Vm.Alike.refl U.vm) qK, qD⟩, va_recv hKc hPc (ci := 8) (q0 := 0) rfl rfl, fun U hU hW => ⟨rfl, by rw [hU], by rw [hU]; exact hPc, va_K.moved hW.alike hKc, hDc.weaken (fun _ _ _ _ => trivial)⟩⟩ rfl rfl hl.1 rfl (lv_room (Nat.le_of_ble_eq_true rfl)) dX8_hold_4 ⟨Nat.le_of_ble_eq_true rfl, Nat.le_of_ble_eq_true rfl⟩) hS (fun q _ h => hFc q h) hFc (fun r_1 u t H1 locs ht hvm hw hB hz1 hk1 hS => ?_)
  obtain ⟨hP1, hK1, hD1⟩ := hB
  rw [ht] at hP1
  have hK1 := va_K.moved hvm.symm hK1
  obtain ⟨hP, hD⟩ := va_join (wr := []) (w1 := [(h0, .inr (8, [.ref x_tape, .ref x_reader, .ref x_current, .ref x_images, .ref x_kept, .ref x_slots, .ref x_diary, .ref x_base, .ref x_trial, .ref x_plan, .ref x_orders, .ref x_unanswered, .int 0, .int 0, .int (-1)])), (x_current, .inr (7, [.int 0, .int 0, .int 0, .int 0, .int 0, .int 0, .int 0, .int 0, .ref t0, .ref t1, .ref t2, .ref t3, .ref t4, .ref t5, .ref t6, .ref t7, .ref t8, .ref t9]))]) hP hD [0, 1] [] rfl rfl (by decide) (by decide) hk1 hFc hP1 hD1
  clear hPc hDc hKc hFc
  generalize H1 = H at hP hS ⊢
  have hP : va_P (dC, dI) vwCl [(h0, .inr (8, [.ref x_tape, .ref x_reader, .ref x_current, .ref x_images, .ref x_kept, .ref x_slots, .ref x_diary, .ref x_base, .ref x_trial, .ref x_plan, .ref x_orders, .ref x_unanswered, .int 0, .int 0, .int (-1)])), (x_current, .inr (7, [.int 0, .int 0, .int 0, .int 0, .int 0, .int 0, .int 0, .int 0, .ref t0, .ref t1, .ref t2, .ref t3, .ref t4, .ref t5, .ref t6, .ref t7, .ref t8, .ref t9]))] H := hP
  have hD : va_D A [(h0, .inr (8, [.ref x_tape, .ref x_reader, .ref x_current, .ref x_images, .ref x_kept, .ref x_slots, .ref x_diary, .ref x_base, .ref x_trial, .ref x_plan, .ref x_orders, .ref x_unanswered, .int 0, .int 0, .int (-1)])), (x_current, .inr (7, [.int 0, .int 0, .int 0, .int 0, .int 0, .int 0, .int 0, .int 0, .ref t0, .ref t1, .ref t2, .ref t3, .ref t4, .ref t5, .ref t6, .ref t7, .ref t8, .ref t9]))] := hD
  have hw : r_1 = 0 := hw
  subst hw
  refine lv_if_eq (tgt := 34) hx hb dX8_hold_7 (by decide) (fun c_2 => ?_) (fun c_2 => absurd (by decide) c_2)
  refine lv_bipush (v := (-2)) hx hb dX8_hold_34 (by decide) ?_
  exact W.iret (v := (-2)) hx hb hr (fun t ht hW => ⟨⟨(-2), (), rfl, rfl, trivial⟩, hS.F ht⟩) hS.2.2 dX8_hold_36
set_option maxHeartbeats 4000000 in
set_option maxRecDepth 100000 in
theorem x_visit (l : Launch) (dC : Nat → ClassId) (dI : Nat → Nat → Nat) (sz : Nat) (h0 : Nat) (x_tape : Nat) (x_reader : Nat) (x_current : Nat) (x_images : Nat) (x_kept : Nat) (x_slots : Nat) (x_diary : Nat) (x_base : Nat) (x_trial : Nat) (x_plan : Nat) (x_orders : Nat) (x_unanswered : Nat) (t0 : Nat) (t1 : Nat) (t2 : Nat) (t3 : Nat) (t4 : Nat) (t5 : Nat) (t6 : Nat) (t7 : Nat) (t8 : Nat) (t9 : Nat) (a : Int32) (b : Int32) (d_ : Int32)  : Met l yX8_visit (.code yX8_visit cX8_visit 4 (some .int) :: ALLW) ({ frames := 1, cells := 0, slots := 0, locals := 21 }) (va_Pc [.ref h0, .int a, .int b, .int d_] (fun U => U.heap.size = sz ∧ va_P (dC, dI) vwCl [(h0, .inr (8, [.ref x_tape, .ref x_reader, .ref x_current, .ref x_images, .ref x_kept, .ref x_slots, .ref x_diary, .ref x_base, .ref x_trial, .ref x_plan, .ref x_orders, .ref x_unanswered, .int 0, .int 0, .int (-1)])), (x_current, .inr (7, [.int 0, .int 0, .int 0, .int 0, .int 0, .int 0, .int 0, .int 0, .ref t0, .ref t1, .ref t2, .ref t3, .ref t4, .ref t5, .ref t6, .ref t7, .ref t8, .ref t9]))] U.heap ∧ va_K (dC, dI) vwCl [] U ∧ va_D (fun _ => True) [(h0, .inr (8, [.ref x_tape, .ref x_reader, .ref x_current, .ref x_images, .ref x_kept, .ref x_slots, .ref x_diary, .ref x_base, .ref x_trial, .ref x_plan, .ref x_orders, .ref x_unanswered, .int 0, .int 0, .int (-1)])), (x_current, .inr (7, [.int 0, .int 0, .int 0, .int 0, .int 0, .int 0, .int 0, .int 0, .ref t0, .ref t1, .ref t2, .ref t3, .ref t4, .ref t5, .ref t6, .ref t7, .ref t8, .ref t9]))])) (va_Qi (fun (r : Int32) (_ : Unit) => r = (-2)) (fun (_ : Unit) (_ : State) => True) (va_A [(h0, .inr (8, [.ref x_tape, .ref x_reader, .ref x_current, .ref x_images, .ref x_kept, .ref x_slots, .ref x_diary, .ref x_base, .ref x_trial, .ref x_plan, .ref x_orders, .ref x_unanswered, .int 0, .int 0, .int (-1)])), (x_current, .inr (7, [.int 0, .int 0, .int 0, .int 0, .int 0, .int 0, .int 0, .int 0, .ref t0, .ref t1, .ref t2, .ref t3, .ref t4, .ref t5, .ref t6, .ref t7, .ref t8, .ref t9]))] sz)) 0 0 (va_A [(h0, .inr (8, [.ref x_tape, .ref x_reader, .ref x_current, .ref x_images, .ref x_kept, .ref x_slots, .ref x_diary, .ref x_base, .ref x_trial, .ref x_plan, .ref x_orders, .ref x_unanswered, .int 0, .int 0, .int (-1)])), (x_current, .inr (7, [.int 0, .int 0, .int 0, .int 0, .int 0, .int 0, .int 0, .int 0, .ref t0, .ref t1, .ref t2, .ref t3, .ref t4, .ref t5, .ref t6, .ref t7, .ref t8, .ref t9]))] sz) := by
  refine Met.ofW (cc := cX8_visit) (maxL := 4) (ret := (some .int)) (by decide) rfl ?_
  intro p e s m args below meth c s₁ B hml hv
  obtain ⟨rfl, hsz, hP, hK, hD0⟩ := hv
  have hx := B.exec
  have hb := B.bytes
  have hr := B.returns
  have hts0 := atoms_spec (ws := (.code yX8_visit cX8_visit 4 (some .int) :: ALLW)) B.pre
  have hts := fun (w : Cond) (h : w ∈ ALLW) => hts0 w (List.mem_cons_of_mem _ h)
  have hown : s.vm.findClass RX8 = some m.cls := findClass_of_methodNamed B.named
  have hlocks := B.notSynchronized
  subst hsz
  have hD := hD0.self (sz := s.heap.size)
  generalize hAe : va_A [(h0, .inr (8, [.ref x_tape, .ref x_reader, .ref x_current, .ref x_images, .ref x_kept, .ref x_slots, .ref x_diary, .ref x_base, .ref x_trial, .ref x_plan, .ref x_orders, .ref x_unanswered, .int 0, .int 0, .int (-1)])), (x_current, .inr (7, [.int 0, .int 0, .int 0, .int 0, .int 0, .int 0, .int 0, .int 0, .ref t0, .ref t1, .ref t2, .ref t3, .ref t4, .ref t5, .ref t6, .ref t7, .ref t8, .ref t9]))] s.heap.size = A at hD ⊢
  have hA : ∀ q : Nat, s.heap.size ≤ q → A q := fun q h => by rw [← hAe]; exact Or.inr h
  have hS : va_S A s.heap s.heap [] := va_S.rf
  have hP : va_P (dC, dI) vwCl [(h0, .inr (8, [.ref x_tape, .ref x_reader, .ref x_current, .ref x_images, .ref x_kept, .ref x_slots, .ref x_diary, .ref x_base, .ref x_trial, .ref x_plan, .ref x_orders, .ref x_unanswered, .int 0, .int 0, .int (-1)])), (x_current, .inr (7, [.int 0, .int 0, .int 0, .int 0, .int 0, .int 0, .int 0, .int 0, .ref t0, .ref t1, .ref t2, .ref t3, .ref t4, .ref t5, .ref t6, .ref t7, .ref t8, .ref t9]))] s.heap := hP
  have hl := lv_entry ([.ref h0, .int a, .int b, .int d_]) (n := 4) (Nat.le_of_ble_eq_true rfl)
  rw [lg_entry_eq]
  generalize (lg_sl ([.ref h0, .int a, .int b, .int d_]) ++ List.replicate (4 - (lg_sl ([.ref h0, .int a, .int b, .int d_])).length) Slot.unset).toArray = ls at hl ⊢
  have hl : lv_has ls 4 [(0, .ref h0), (1, .int a), (2, .int b), (3, .int d_)] := hl
  refine lv_aload_n hx hb dX8_visit_0 rfl (lv_at hl 0 rfl) ?_
  refine va_get (D := (dC, dI)) (ci := 8) (v := .ref x_current) (C := RX8) (T := TX8) (N := 15) hx hb hts inA8 hown hK hP 0 rfl rfl 2 (by decide) (hts _ w_24) (fun _ h9 => h9) rfl dX8_visit_1 ?_
  refine lv_iload_n hx hb dX8_visit_4 rfl (lv_at hl 1 rfl) ?_
  have hPc := hP.sub (ws' := [(x_current, .inr (7, [.int 0, .int 0, .int 0, .int 0, .int 0, .int 0, .int 0, .int 0, .ref t0, .ref t1, .ref t2, .ref t3, .ref t4, .ref t5, .ref t6, .ref t7, .ref t8, .ref t9]))]) [1] rfl
  have hDc := hD.sub (ws' := [(x_current, .inr (7, [.int 0, .int 0, .int 0, .int 0, .int 0, .int 0, .int 0, .int 0, .ref t0, .ref t1, .ref t2, .ref t3, .ref t4, .ref t5, .ref t6, .ref t7, .ref t8, .ref t9]))]) [1] (by decide) rfl
  have hKc := hK.sub (tys' := []) [] rfl
  have hFc := va_free (wc := [(x_current, .inr (7, [.int 0, .int 0, .int 0, .int 0, .int 0, .int 0, .int 0, .int 0, .ref t0, .ref t1, .ref t2, .ref t3, .ref t4, .ref t5, .ref t6, .ref t7, .ref t8, .ref t9]))]) hD hS hA [1] rfl
  refine va_calli (va_runV (As := [.int a]) (rest := []) ⟨hx, hb, hml, hown, hts⟩ (c_isTold l dC dI s.heap.size x_current t0 t1 t2 t3 t4 t5 t6 t7 t8 t9 a ) (cwV 1 hts (goodV w_806 w_568 w_569 w_23 w_570) rfl rfl rfl hdV_X7_isTold ⟨Nat.le_of_ble_eq_true rfl, Nat.le_of_ble_eq_true rfl⟩) ⟨fun a U g mk q => by obtain ⟨q0, q1, qP, qK, qD⟩ := q; exact ⟨q0, q1, qP, va_K.moved (u := U) (U := U.calling g mk a) (Vm.Alike.refl U.vm) qK, qD⟩, va_recv hKc hPc (ci := 7) (q0 := 0) rfl rfl, fun U hU hW => ⟨rfl, by rw [hU], by rw [hU]; exact hPc, va_K.moved hW.alike hKc, hDc.weaken (fun _ _ _ _ => trivial)⟩⟩ rfl rfl hl.1 rfl (lv_room (Nat.le_of_ble_eq_true rfl)) dX8_visit_5 ⟨Nat.le_of_ble_eq_true rfl, Nat.le_of_ble_eq_true rfl⟩) hS (fun q _ h => hFc q h) hFc (fun r_1 u t H1 locs ht hvm hw hB hz1 hk1 hS => ?_)
  obtain ⟨hP1, hK1, hD1⟩ := hB
  rw [ht] at hP1
  have hK1 := va_K.moved hvm.symm hK1
  obtain ⟨hP, hD⟩ := va_join (wr := [(h0, .inr (8, [.ref x_tape, .ref x_reader, .ref x_current, .ref x_images, .ref x_kept, .ref x_slots, .ref x_diary, .ref x_base, .ref x_trial, .ref x_plan, .ref x_orders, .ref x_unanswered, .int 0, .int 0, .int (-1)]))]) (w1 := [(x_current, .inr (7, [.int 0, .int 0, .int 0, .int 0, .int 0, .int 0, .int 0, .int 0, .ref t0, .ref t1, .ref t2, .ref t3, .ref t4, .ref t5, .ref t6, .ref t7, .ref t8, .ref t9]))]) hP hD [1] [0] rfl rfl (by decide) (by decide) hk1 hFc hP1 hD1
  clear hPc hDc hKc hFc
  generalize H1 = H at hP hS ⊢
  have hP : va_P (dC, dI) vwCl [(h0, .inr (8, [.ref x_tape, .ref x_reader, .ref x_current, .ref x_images, .ref x_kept, .ref x_slots, .ref x_diary, .ref x_base, .ref x_trial, .ref x_plan, .ref x_orders, .ref x_unanswered, .int 0, .int 0, .int (-1)])), (x_current, .inr (7, [.int 0, .int 0, .int 0, .int 0, .int 0, .int 0, .int 0, .int 0, .ref t0, .ref t1, .ref t2, .ref t3, .ref t4, .ref t5, .ref t6, .ref t7, .ref t8, .ref t9]))] H := hP
  have hD : va_D A [(h0, .inr (8, [.ref x_tape, .ref x_reader, .ref x_current, .ref x_images, .ref x_kept, .ref x_slots, .ref x_diary, .ref x_base, .ref x_trial, .ref x_plan, .ref x_orders, .ref x_unanswered, .int 0, .int 0, .int (-1)])), (x_current, .inr (7, [.int 0, .int 0, .int 0, .int 0, .int 0, .int 0, .int 0, .int 0, .ref t0, .ref t1, .ref t2, .ref t3, .ref t4, .ref t5, .ref t6, .ref t7, .ref t8, .ref t9]))] := hD
  have hw : r_1 = 0 := hw
  subst hw
  refine lv_if_eq (tgt := 30) hx hb dX8_visit_8 (by decide) (fun c_2 => ?_) (fun c_2 => absurd (by decide) c_2)
  refine lv_bipush (v := (-2)) hx hb dX8_visit_30 (by decide) ?_
  exact W.iret (v := (-2)) hx hb hr (fun t ht hW => ⟨⟨(-2), (), rfl, rfl, trivial⟩, hS.F ht⟩) hS.2.2 dX8_visit_32
set_option maxHeartbeats 4000000 in
set_option maxRecDepth 100000 in
theorem x_pays (l : Launch) (dC : Nat → ClassId) (dI : Nat → Nat → Nat) (sz : Nat) (h0 : Nat) (x_tape : Nat) (x_reader : Nat) (x_current : Nat) (x_images : Nat) (x_kept : Nat) (x_slots : Nat) (x_diary : Nat) (x_base : Nat) (x_trial : Nat) (x_plan : Nat) (x_orders : Nat) (x_unanswered : Nat) (t0 : Nat) (t1 : Nat) (t2 : Nat) (t3 : Nat) (t4 : Nat) (t5 : Nat) (t6 : Nat) (t7 : Nat) (t8 : Nat) (t9 : Nat) (a : Int32) (b : Int32)  : Met l yX8_pays (.code yX8_pays cX8_pays 7 (some .int) :: ALLW) ({ frames := 1, cells := 0, slots := 0, locals := 21 }) (va_Pc [.ref h0, .int a, .int b] (fun U => U.heap.size = sz ∧ va_P (dC, dI) vwCl [(h0, .inr (8, [.ref x_tape, .ref x_reader, .ref x_current, .ref x_images, .ref x_kept, .ref x_slots, .ref x_diary, .ref x_base, .ref x_trial, .ref x_plan, .ref x_orders, .ref x_unanswered, .int 0, .int 0, .int (-1)])), (x_current, .inr (7, [.int 0, .int 0, .int 0, .int 0, .int 0, .int 0, .int 0, .int 0, .ref t0, .ref t1, .ref t2, .ref t3, .ref t4, .ref t5, .ref t6, .ref t7, .ref t8, .ref t9]))] U.heap ∧ va_K (dC, dI) vwCl [] U ∧ va_D (fun _ => True) [(h0, .inr (8, [.ref x_tape, .ref x_reader, .ref x_current, .ref x_images, .ref x_kept, .ref x_slots, .ref x_diary, .ref x_base, .ref x_trial, .ref x_plan, .ref x_orders, .ref x_unanswered, .int 0, .int 0, .int (-1)])), (x_current, .inr (7, [.int 0, .int 0, .int 0, .int 0, .int 0, .int 0, .int 0, .int 0, .ref t0, .ref t1, .ref t2, .ref t3, .ref t4, .ref t5, .ref t6, .ref t7, .ref t8, .ref t9]))])) (va_Qi (fun (r : Int32) (_ : Unit) => r = (-2)) (fun (_ : Unit) (_ : State) => True) (va_A [(h0, .inr (8, [.ref x_tape, .ref x_reader, .ref x_current, .ref x_images, .ref x_kept, .ref x_slots, .ref x_diary, .ref x_base, .ref x_trial, .ref x_plan, .ref x_orders, .ref x_unanswered, .int 0, .int 0, .int (-1)])), (x_current, .inr (7, [.int 0, .int 0, .int 0, .int 0, .int 0, .int 0, .int 0, .int 0, .ref t0, .ref t1, .ref t2, .ref t3, .ref t4, .ref t5, .ref t6, .ref t7, .ref t8, .ref t9]))] sz)) 0 0 (va_A [(h0, .inr (8, [.ref x_tape, .ref x_reader, .ref x_current, .ref x_images, .ref x_kept, .ref x_slots, .ref x_diary, .ref x_base, .ref x_trial, .ref x_plan, .ref x_orders, .ref x_unanswered, .int 0, .int 0, .int (-1)])), (x_current, .inr (7, [.int 0, .int 0, .int 0, .int 0, .int 0, .int 0, .int 0, .int 0, .ref t0, .ref t1, .ref t2, .ref t3, .ref t4, .ref t5, .ref t6, .ref t7, .ref t8, .ref t9]))] sz) := by
  refine Met.ofW (cc := cX8_pays) (maxL := 7) (ret := (some .int)) (by decide) rfl ?_
  intro p e s m args below meth c s₁ B hml hv
  obtain ⟨rfl, hsz, hP, hK, hD0⟩ := hv
  have hx := B.exec
  have hb := B.bytes
  have hr := B.returns
  have hts0 := atoms_spec (ws := (.code yX8_pays cX8_pays 7 (some .int) :: ALLW)) B.pre
  have hts := fun (w : Cond) (h : w ∈ ALLW) => hts0 w (List.mem_cons_of_mem _ h)
  have hown : s.vm.findClass RX8 = some m.cls := findClass_of_methodNamed B.named
  have hlocks := B.notSynchronized
  subst hsz
  have hD := hD0.self (sz := s.heap.size)
  generalize hAe : va_A [(h0, .inr (8, [.ref x_tape, .ref x_reader, .ref x_current, .ref x_images, .ref x_kept, .ref x_slots, .ref x_diary, .ref x_base, .ref x_trial, .ref x_plan, .ref x_orders, .ref x_unanswered, .int 0, .int 0, .int (-1)])), (x_current, .inr (7, [.int 0, .int 0, .int 0, .int 0, .int 0, .int 0, .int 0, .int 0, .ref t0, .ref t1, .ref t2, .ref t3, .ref t4, .ref t5, .ref t6, .ref t7, .ref t8, .ref t9]))] s.heap.size = A at hD ⊢
  have hA : ∀ q : Nat, s.heap.size ≤ q → A q := fun q h => by rw [← hAe]; exact Or.inr h
  have hS : va_S A s.heap s.heap [] := va_S.rf
  have hP : va_P (dC, dI) vwCl [(h0, .inr (8, [.ref x_tape, .ref x_reader, .ref x_current, .ref x_images, .ref x_kept, .ref x_slots, .ref x_diary, .ref x_base, .ref x_trial, .ref x_plan, .ref x_orders, .ref x_unanswered, .int 0, .int 0, .int (-1)])), (x_current, .inr (7, [.int 0, .int 0, .int 0, .int 0, .int 0, .int 0, .int 0, .int 0, .ref t0, .ref t1, .ref t2, .ref t3, .ref t4, .ref t5, .ref t6, .ref t7, .ref t8, .ref t9]))] s.heap := hP
  have hl := lv_entry ([.ref h0, .int a, .int b]) (n := 7) (Nat.le_of_ble_eq_true rfl)
  rw [lg_entry_eq]
  generalize (lg_sl ([.ref h0, .int a, .int b]) ++ List.replicate (7 - (lg_sl ([.ref h0, .int a, .int b])).length) Slot.unset).toArray = ls at hl ⊢
  have hl : lv_has ls 7 [(0, .ref h0), (1, .int a), (2, .int b)] := hl
  refine lv_aload_n hx hb dX8_pays_0 rfl (lv_at hl 0 rfl) ?_
  refine va_get (D := (dC, dI)) (ci := 8) (v := .ref x_current) (C := RX8) (T := TX8) (N := 15) hx hb hts inA8 hown hK hP 0 rfl rfl 2 (by decide) (hts _ w_24) (fun _ h9 => h9) rfl dX8_pays_1 ?_
  refine lv_iload_n hx hb dX8_pays_4 rfl (lv_at hl 1 rfl) ?_
  have hPc := hP.sub (ws' := [(x_current, .inr (7, [.int 0, .int 0, .int 0, .int 0, .int 0, .int 0, .int 0, .int 0, .ref t0, .ref t1, .ref t2, .ref t3, .ref t4, .ref t5, .ref t6, .ref t7, .ref t8, .ref t9]))]) [1] rfl
  have hDc := hD.sub (ws' := [(x_current, .inr (7, [.int 0, .int 0, .int 0, .int 0, .int 0, .int 0, .int 0, .int 0, .ref t0, .ref t1, .ref t2, .ref t3, .ref t4, .ref t5, .ref t6, .ref t7, .ref t8, .ref t9]))]) [1] (by decide) rfl
  have hKc := hK.sub (tys' := []) [] rfl
  have hFc := va_free (wc := [(x_current, .inr (7, [.int 0, .int 0, .int 0, .int 0, .int 0, .int 0, .int 0, .int 0, .ref t0, .ref t1, .ref t2, .ref t3, .ref t4, .ref t5, .ref t6, .ref t7, .ref t8, .ref t9]))]) hD hS hA [1] rfl
  refine va_calli (va_runV (As := [.int a]) (rest := []) ⟨hx, hb, hml, hown, hts⟩ (c_isTold l dC dI s.heap.size x_current t0 t1 t2 t3 t4 t5 t6 t7 t8 t9 a ) (cwV 1 hts (goodV w_806 w_568 w_569 w_23 w_570) rfl rfl rfl hdV_X7_isTold ⟨Nat.le_of_ble_eq_true rfl, Nat.le_of_ble_eq_true rfl⟩) ⟨fun a U g mk q => by obtain ⟨q0, q1, qP, qK, qD⟩ := q; exact ⟨q0, q1, qP, va_K.moved (u := U) (U := U.calling g mk a) (Vm.Alike.refl U.vm) qK, qD⟩, va_recv hKc hPc (ci := 7) (q0 := 0) rfl rfl, fun U hU hW => ⟨rfl, by rw [hU], by rw [hU]; exact hPc, va_K.moved hW.alike hKc, hDc.weaken (fun _ _ _ _ => trivial)⟩⟩ rfl rfl hl.1 rfl (lv_room (Nat.le_of_ble_eq_true rfl)) dX8_pays_5 ⟨Nat.le_of_ble_eq_true rfl, Nat.le_of_ble_eq_true rfl⟩) hS (fun q _ h => hFc q h) hFc (fun r_1 u t H1 locs ht hvm hw hB hz1 hk1 hS => ?_)
  obtain ⟨hP1, hK1, hD1⟩ := hB
  rw [ht] at hP1
  have hK1 := va_K.moved hvm.symm hK1
  obtain ⟨hP, hD⟩ := va_join (wr := [(h0, .inr (8, [.ref x_tape, .ref x_reader, .ref x_current, .ref x_images, .ref x_kept, .ref x_slots, .ref x_diary, .ref x_base, .ref x_trial, .ref x_plan, .ref x_orders, .ref x_unanswered, .int 0, .int 0, .int (-1)]))]) (w1 := [(x_current, .inr (7, [.int 0, .int 0, .int 0, .int 0, .int 0, .int 0, .int 0, .int 0, .ref t0, .ref t1, .ref t2, .ref t3, .ref t4, .ref t5, .ref t6, .ref t7, .ref t8, .ref t9]))]) hP hD [1] [0] rfl rfl (by decide) (by decide) hk1 hFc hP1 hD1
  clear hPc hDc hKc hFc
  generalize H1 = H at hP hS ⊢
  have hP : va_P (dC, dI) vwCl [(h0, .inr (8, [.ref x_tape, .ref x_reader, .ref x_current, .ref x_images, .ref x_kept, .ref x_slots, .ref x_diary, .ref x_base, .ref x_trial, .ref x_plan, .ref x_orders, .ref x_unanswered, .int 0, .int 0, .int (-1)])), (x_current, .inr (7, [.int 0, .int 0, .int 0, .int 0, .int 0, .int 0, .int 0, .int 0, .ref t0, .ref t1, .ref t2, .ref t3, .ref t4, .ref t5, .ref t6, .ref t7, .ref t8, .ref t9]))] H := hP
  have hD : va_D A [(h0, .inr (8, [.ref x_tape, .ref x_reader, .ref x_current, .ref x_images, .ref x_kept, .ref x_slots, .ref x_diary, .ref x_base, .ref x_trial, .ref x_plan, .ref x_orders, .ref x_unanswered, .int 0, .int 0, .int (-1)])), (x_current, .inr (7, [.int 0, .int 0, .int 0, .int 0, .int 0, .int 0, .int 0, .int 0, .ref t0, .ref t1, .ref t2, .ref t3, .ref t4, .ref t5, .ref t6, .ref t7, .ref t8, .ref t9]))] := hD
  have hw : r_1 = 0 := hw
  subst hw
  refine lv_if_eq (tgt := 19) hx hb dX8_pays_8 (by decide) (fun c_2 => ?_) (fun c_2 => absurd (by decide) c_2)
  refine lv_bipush (v := (-2)) hx hb dX8_pays_19 (by decide) ?_
  exact W.iret (v := (-2)) hx hb hr (fun t ht hW => ⟨⟨(-2), (), rfl, rfl, trivial⟩, hS.F ht⟩) hS.2.2 dX8_pays_21
set_option maxHeartbeats 4000000 in
set_option maxRecDepth 100000 in
theorem x_instead (l : Launch) (dC : Nat → ClassId) (dI : Nat → Nat → Nat) (sz : Nat) (h0 : Nat) (x_tape : Nat) (x_reader : Nat) (x_current : Nat) (x_images : Nat) (x_kept : Nat) (x_slots : Nat) (x_diary : Nat) (x_base : Nat) (x_trial : Nat) (x_plan : Nat) (x_orders : Nat) (x_unanswered : Nat) (t0 : Nat) (t1 : Nat) (t2 : Nat) (t3 : Nat) (t4 : Nat) (t5 : Nat) (t6 : Nat) (t7 : Nat) (t8 : Nat) (t9 : Nat) (a : Int32)  : Met l yX8_instead (.code yX8_instead cX8_instead 7 (some .int) :: ALLW) ({ frames := 1, cells := 0, slots := 0, locals := 20 }) (va_Pc [.ref h0, .int a] (fun U => U.heap.size = sz ∧ va_P (dC, dI) vwCl [(h0, .inr (8, [.ref x_tape, .ref x_reader, .ref x_current, .ref x_images, .ref x_kept, .ref x_slots, .ref x_diary, .ref x_base, .ref x_trial, .ref x_plan, .ref x_orders, .ref x_unanswered, .int 0, .int 0, .int (-1)])), (x_current, .inr (7, [.int 0, .int 0, .int 0, .int 0, .int 0, .int 0, .int 0, .int 0, .ref t0, .ref t1, .ref t2, .ref t3, .ref t4, .ref t5, .ref t6, .ref t7, .ref t8, .ref t9]))] U.heap ∧ va_K (dC, dI) vwCl [] U ∧ va_D (fun _ => True) [(h0, .inr (8, [.ref x_tape, .ref x_reader, .ref x_current, .ref x_images, .ref x_kept, .ref x_slots, .ref x_diary, .ref x_base, .ref x_trial, .ref x_plan, .ref x_orders, .ref x_unanswered, .int 0, .int 0, .int (-1)])), (x_current, .inr (7, [.int 0, .int 0, .int 0, .int 0, .int 0, .int 0, .int 0, .int 0, .ref t0, .ref t1, .ref t2, .ref t3, .ref t4, .ref t5, .ref t6, .ref t7, .ref t8, .ref t9]))])) (va_Qi (fun (r : Int32) (_ : Unit) => r = (-2)) (fun (_ : Unit) (_ : State) => True) (va_A [(h0, .inr (8, [.ref x_tape, .ref x_reader, .ref x_current, .ref x_images, .ref x_kept, .ref x_slots, .ref x_diary, .ref x_base, .ref x_trial, .ref x_plan, .ref x_orders, .ref x_unanswered, .int 0, .int 0, .int (-1)])), (x_current, .inr (7, [.int 0, .int 0, .int 0, .int 0, .int 0, .int 0, .int 0, .int 0, .ref t0, .ref t1, .ref t2, .ref t3, .ref t4, .ref t5, .ref t6, .ref t7, .ref t8, .ref t9]))] sz)) 0 0 (va_A [(h0, .inr (8, [.ref x_tape, .ref x_reader, .ref x_current, .ref x_images, .ref x_kept, .ref x_slots, .ref x_diary, .ref x_base, .ref x_trial, .ref x_plan, .ref x_orders, .ref x_unanswered, .int 0, .int 0, .int (-1)])), (x_current, .inr (7, [.int 0, .int 0, .int 0, .int 0, .int 0, .int 0, .int 0, .int 0, .ref t0, .ref t1, .ref t2, .ref t3, .ref t4, .ref t5, .ref t6, .ref t7, .ref t8, .ref t9]))] sz) := by
  refine Met.ofW (cc := cX8_instead) (maxL := 7) (ret := (some .int)) (by decide) rfl ?_
  intro p e s m args below meth c s₁ B hml hv
  obtain ⟨rfl, hsz, hP, hK, hD0⟩ := hv
  have hx := B.exec
  have hb := B.bytes
  have hr := B.returns
  have hts0 := atoms_spec (ws := (.code yX8_instead cX8_instead 7 (some .int) :: ALLW)) B.pre
  have hts := fun (w : Cond) (h : w ∈ ALLW) => hts0 w (List.mem_cons_of_mem _ h)
  have hown : s.vm.findClass RX8 = some m.cls := findClass_of_methodNamed B.named
  have hlocks := B.notSynchronized
  subst hsz
  have hD := hD0.self (sz := s.heap.size)
  generalize hAe : va_A [(h0, .inr (8, [.ref x_tape, .ref x_reader, .ref x_current, .ref x_images, .ref x_kept, .ref x_slots, .ref x_diary, .ref x_base, .ref x_trial, .ref x_plan, .ref x_orders, .ref x_unanswered, .int 0, .int 0, .int (-1)])), (x_current, .inr (7, [.int 0, .int 0, .int 0, .int 0, .int 0, .int 0, .int 0, .int 0, .ref t0, .ref t1, .ref t2, .ref t3, .ref t4, .ref t5, .ref t6, .ref t7, .ref t8, .ref t9]))] s.heap.size = A at hD ⊢
  have hA : ∀ q : Nat, s.heap.size ≤ q → A q := fun q h => by rw [← hAe]; exact Or.inr h
  have hS : va_S A s.heap s.heap [] := va_S.rf
  have hP : va_P (dC, dI) vwCl [(h0, .inr (8, [.ref x_tape, .ref x_reader, .ref x_current, .ref x_images, .ref x_kept, .ref x_slots, .ref x_diary, .ref x_base, .ref x_trial, .ref x_plan, .ref x_orders, .ref x_unanswered, .int 0, .int 0, .int (-1)])), (x_current, .inr (7, [.int 0, .int 0, .int 0, .int 0, .int 0, .int 0, .int 0, .int 0, .ref t0, .ref t1, .ref t2, .ref t3, .ref t4, .ref t5, .ref t6, .ref t7, .ref t8, .ref t9]))] s.heap := hP
  have hl := lv_entry ([.ref h0, .int a]) (n := 7) (Nat.le_of_ble_eq_true rfl)
  rw [lg_entry_eq]
  generalize (lg_sl ([.ref h0, .int a]) ++ List.replicate (7 - (lg_sl ([.ref h0, .int a])).length) Slot.unset).toArray = ls at hl ⊢
  have hl : lv_has ls 7 [(0, .ref h0), (1, .int a)] := hl
  refine lv_aload_n hx hb dX8_instead_0 rfl (lv_at hl 0 rfl) ?_
  have hPc := hP.sub (ws' := [(h0, .inr (8, [.ref x_tape, .ref x_reader, .ref x_current, .ref x_images, .ref x_kept, .ref x_slots, .ref x_diary, .ref x_base, .ref x_trial, .ref x_plan, .ref x_orders, .ref x_unanswered, .int 0, .int 0, .int (-1)])), (x_current, .inr (7, [.int 0, .int 0, .int 0, .int 0, .int 0, .int 0, .int 0, .int 0, .ref t0, .ref t1, .ref t2, .ref t3, .ref t4, .ref t5, .ref t6, .ref t7, .ref t8, .ref t9]))]) [0, 1] rfl
  have hDc := hD.sub (ws' := [(h0, .inr (8, [.ref x_tape, .ref x_reader, .ref x_current, .ref x_images, .ref x_kept, .ref x_slots, .ref x_diary, .ref x_base, .ref x_trial, .ref x_plan, .ref x_orders, .ref x_unanswered, .int 0, .int 0, .int (-1)])), (x_current, .inr (7, [.int 0, .int 0, .int 0, .int 0, .int 0, .int 0, .int 0, .int 0, .ref t0, .ref t1, .ref t2, .ref t3, .ref t4, .ref t5, .ref t6, .ref t7, .ref t8, .ref t9]))]) [0, 1] (by decide) rfl
  have hKc := hK.sub (tys' := []) [] rfl
  have hFc := va_free (wc := [(h0, .inr (8, [.ref x_tape, .ref x_reader, .ref x_current, .ref x_images, .ref x_kept, .ref x_slots, .ref x_diary, .ref x_base, .ref x_trial, .ref x_plan, .ref x_orders, .ref x_unanswered, .int 0, .int 0, .int (-1)])), (x_current, .inr (7, [.int 0, .int 0, .int 0, .int 0, .int 0, .int 0, .int 0, .int 0, .ref t0, .ref t1, .ref t2, .ref t3, .ref t4, .ref t5, .ref t6, .ref t7, .ref t8, .ref t9]))]) hD hS hA [0, 1] rfl
  refine va_calli (va_runV (As := []) (rest := []) ⟨hx, hb, hml, hown, hts⟩ (c_noTown l dC dI s.heap.size h0 x_tape x_reader x_current x_images x_kept x_slots x_diary x_base x_trial x_plan x_orders x_unanswered t0 t1 t2 t3 t4 t5 t6 t7 t8 t9 ) (cwV 0 hts (goodV w_817 w_818 w_819 w_2 w_820) rfl rfl rfl hdV_X8_noTown ⟨Nat.le_of_ble_eq_true rfl, Nat.le_of_ble_eq_true rfl⟩) ⟨fun a U g mk q => by obtain ⟨q0, q1, qP, qK, qD⟩ := q; exact ⟨q0, q1, qP, va_K.moved (u := U) (U := U.calling g mk a) (Vm.Alike.refl U.vm) qK, qD⟩, va_recv hKc hPc (ci := 8) (q0 := 0) rfl rfl, fun U hU hW => ⟨rfl, by rw [hU], by rw [hU]; exact hPc, va_K.moved hW.alike hKc, hDc.weaken (fun _ _ _ _ => trivial)⟩⟩ rfl rfl hl.1 rfl (lv_room (Nat.le_of_ble_eq_true rfl)) dX8_instead_1 ⟨Nat.le_of_ble_eq_true rfl, Nat.le_of_ble_eq_true rfl⟩) hS (fun q _ h => hFc q h) hFc (fun r_1 u t H1 locs ht hvm hw hB hz1 hk1 hS => ?_)
  obtain ⟨hP1, hK1, hD1⟩ := hB
  rw [ht] at hP1
  have hK1 := va_K.moved hvm.symm hK1
  obtain ⟨hP, hD⟩ := va_join (wr := []) (w1 := [(h0, .inr (8, [.ref x_tape, .ref x_reader, .ref x_current, .ref x_images, .ref x_kept, .ref x_slots, .ref x_diary, .ref x_base, .ref x_trial, .ref x_plan, .ref x_orders, .ref x_unanswered, .int 0, .int 0, .int (-1)])), (x_current, .inr (7, [.int 0, .int 0, .int 0, .int 0, .int 0, .int 0, .int 0, .int 0, .ref t0, .ref t1, .ref t2, .ref t3, .ref t4, .ref t5, .ref t6, .ref t7, .ref t8, .ref t9]))]) hP hD [0, 1] [] rfl rfl (by decide) (by decide) hk1 hFc hP1 hD1
  clear hPc hDc hKc hFc
  generalize H1 = H at hP hS ⊢
  have hP : va_P (dC, dI) vwCl [(h0, .inr (8, [.ref x_tape, .ref x_reader, .ref x_current, .ref x_images, .ref x_kept, .ref x_slots, .ref x_diary, .ref x_base, .ref x_trial, .ref x_plan, .ref x_orders, .ref x_unanswered, .int 0, .int 0, .int (-1)])), (x_current, .inr (7, [.int 0, .int 0, .int 0, .int 0, .int 0, .int 0, .int 0, .int 0, .ref t0, .ref t1, .ref t2, .ref t3, .ref t4, .ref t5, .ref t6, .ref t7, .ref t8, .ref t9]))] H := hP
  have hD : va_D A [(h0, .inr (8, [.ref x_tape, .ref x_reader, .ref x_current, .ref x_images, .ref x_kept, .ref x_slots, .ref x_diary, .ref x_base, .ref x_trial, .ref x_plan, .ref x_orders, .ref x_unanswered, .int 0, .int 0, .int (-1)])), (x_current, .inr (7, [.int 0, .int 0, .int 0, .int 0, .int 0, .int 0, .int 0, .int 0, .ref t0, .ref t1, .ref t2, .ref t3, .ref t4, .ref t5, .ref t6, .ref t7, .ref t8, .ref t9]))] := hD
  have hw : r_1 = 1 := hw
  subst hw
  refine lv_if_ne (tgt := 15) hx hb dX8_instead_4 (by decide) (fun c_2 => ?_) (fun c_2 => absurd c_2 (by decide))
  refine lv_bipush (v := (-2)) hx hb dX8_instead_15 (by decide) ?_
  exact W.iret (v := (-2)) hx hb hr (fun t ht hW => ⟨⟨(-2), (), rfl, rfl, trivial⟩, hS.F ht⟩) hS.2.2 dX8_instead_17
set_option maxHeartbeats 4000000 in
set_option maxRecDepth 100000 in
theorem x_burn (l : Launch) (dC : Nat → ClassId) (dI : Nat → Nat → Nat) (sz : Nat) (h0 : Nat) (x_tape : Nat) (x_reader : Nat) (x_current : Nat) (x_images : Nat) (x_kept : Nat) (x_slots : Nat) (x_diary : Nat) (x_base : Nat) (x_trial : Nat) (x_plan : Nat) (x_orders : Nat) (x_unanswered : Nat) (t0 : Nat) (t1 : Nat) (t2 : Nat) (t3 : Nat) (t4 : Nat) (t5 : Nat) (t6 : Nat) (t7 : Nat) (t8 : Nat) (t9 : Nat) (a : Int32) (b : Int32)  : Met l yX8_burn (.code yX8_burn cX8_burn 3 (some .int) :: ALLW) ({ frames := 1, cells := 0, slots := 0, locals := 21 }) (va_Pc [.ref h0, .int a, .int b] (fun U => U.heap.size = sz ∧ va_P (dC, dI) vwCl [(h0, .inr (8, [.ref x_tape, .ref x_reader, .ref x_current, .ref x_images, .ref x_kept, .ref x_slots, .ref x_diary, .ref x_base, .ref x_trial, .ref x_plan, .ref x_orders, .ref x_unanswered, .int 0, .int 0, .int (-1)])), (x_current, .inr (7, [.int 0, .int 0, .int 0, .int 0, .int 0, .int 0, .int 0, .int 0, .ref t0, .ref t1, .ref t2, .ref t3, .ref t4, .ref t5, .ref t6, .ref t7, .ref t8, .ref t9]))] U.heap ∧ va_K (dC, dI) vwCl [] U ∧ va_D (fun _ => True) [(h0, .inr (8, [.ref x_tape, .ref x_reader, .ref x_current, .ref x_images, .ref x_kept, .ref x_slots, .ref x_diary, .ref x_base, .ref x_trial, .ref x_plan, .ref x_orders, .ref x_unanswered, .int 0, .int 0, .int (-1)])), (x_current, .inr (7, [.int 0, .int 0, .int 0, .int 0, .int 0, .int 0, .int 0, .int 0, .ref t0, .ref t1, .ref t2, .ref t3, .ref t4, .ref t5, .ref t6, .ref t7, .ref t8, .ref t9]))])) (va_Qi (fun (r : Int32) (_ : Unit) => r = (-2)) (fun (_ : Unit) (_ : State) => True) (va_A [(h0, .inr (8, [.ref x_tape, .ref x_reader, .ref x_current, .ref x_images, .ref x_kept, .ref x_slots, .ref x_diary, .ref x_base, .ref x_trial, .ref x_plan, .ref x_orders, .ref x_unanswered, .int 0, .int 0, .int (-1)])), (x_current, .inr (7, [.int 0, .int 0, .int 0, .int 0, .int 0, .int 0, .int 0, .int 0, .ref t0, .ref t1, .ref t2, .ref t3, .ref t4, .ref t5, .ref t6, .ref t7, .ref t8, .ref t9]))] sz)) 0 0 (va_A [(h0, .inr (8, [.ref x_tape, .ref x_reader, .ref x_current, .ref x_images, .ref x_kept, .ref x_slots, .ref x_diary, .ref x_base, .ref x_trial, .ref x_plan, .ref x_orders, .ref x_unanswered, .int 0, .int 0, .int (-1)])), (x_current, .inr (7, [.int 0, .int 0, .int 0, .int 0, .int 0, .int 0, .int 0, .int 0, .ref t0, .ref t1, .ref t2, .ref t3, .ref t4, .ref t5, .ref t6, .ref t7, .ref t8, .ref t9]))] sz) := by
  refine Met.ofW (cc := cX8_burn) (maxL := 3) (ret := (some .int)) (by decide) rfl ?_
  intro p e s m args below meth c s₁ B hml hv
  obtain ⟨rfl, hsz, hP, hK, hD0⟩ := hv
  have hx := B.exec
  have hb := B.bytes
  have hr := B.returns
  have hts0 := atoms_spec (ws := (.code yX8_burn cX8_burn 3 (some .int) :: ALLW)) B.pre
  have hts := fun (w : Cond) (h : w ∈ ALLW) => hts0 w (List.mem_cons_of_mem _ h)
  have hown : s.vm.findClass RX8 = some m.cls := findClass_of_methodNamed B.named
  have hlocks := B.notSynchronized
  subst hsz
  have hD := hD0.self (sz := s.heap.size)
  generalize hAe : va_A [(h0, .inr (8, [.ref x_tape, .ref x_reader, .ref x_current, .ref x_images, .ref x_kept, .ref x_slots, .ref x_diary, .ref x_base, .ref x_trial, .ref x_plan, .ref x_orders, .ref x_unanswered, .int 0, .int 0, .int (-1)])), (x_current, .inr (7, [.int 0, .int 0, .int 0, .int 0, .int 0, .int 0, .int 0, .int 0, .ref t0, .ref t1, .ref t2, .ref t3, .ref t4, .ref t5, .ref t6, .ref t7, .ref t8, .ref t9]))] s.heap.size = A at hD ⊢
  have hA : ∀ q : Nat, s.heap.size ≤ q → A q := fun q h => by rw [← hAe]; exact Or.inr h
  have hS : va_S A s.heap s.heap [] := va_S.rf
  have hP : va_P (dC, dI) vwCl [(h0, .inr (8, [.ref x_tape, .ref x_reader, .ref x_current, .ref x_images, .ref x_kept, .ref x_slots, .ref x_diary, .ref x_base, .ref x_trial, .ref x_plan, .ref x_orders, .ref x_unanswered, .int 0, .int 0, .int (-1)])), (x_current, .inr (7, [.int 0, .int 0, .int 0, .int 0, .int 0, .int 0, .int 0, .int 0, .ref t0, .ref t1, .ref t2, .ref t3, .ref t4, .ref t5, .ref t6, .ref t7, .ref t8, .ref t9]))] s.heap := hP
  have hl := lv_entry ([.ref h0, .int a, .int b]) (n := 3) (Nat.le_of_ble_eq_true rfl)
  rw [lg_entry_eq]
  generalize (lg_sl ([.ref h0, .int a, .int b]) ++ List.replicate (3 - (lg_sl ([.ref h0, .int a, .int b])).length) Slot.unset).toArray = ls at hl ⊢
  have hl : lv_has ls 3 [(0, .ref h0), (1, .int a), (2, .int b)] := hl
  refine lv_aload_n hx hb dX8_burn_0 rfl (lv_at hl 0 rfl) ?_
  refine va_get (D := (dC, dI)) (ci := 8) (v := .ref x_current) (C := RX8) (T := TX8) (N := 15) hx hb hts inA8 hown hK hP 0 rfl rfl 2 (by decide) (hts _ w_24) (fun _ h9 => h9) rfl dX8_burn_1 ?_
  refine lv_iload_n hx hb dX8_burn_4 rfl (lv_at hl 1 rfl) ?_
  have hPc := hP.sub (ws' := [(x_current, .inr (7, [.int 0, .int 0, .int 0, .int 0, .int 0, .int 0, .int 0, .int 0, .ref t0, .ref t1, .ref t2, .ref t3, .ref t4, .ref t5, .ref t6, .ref t7, .ref t8, .ref t9]))]) [1] rfl
  have hDc := hD.sub (ws' := [(x_current, .inr (7, [.int 0, .int 0, .int 0, .int 0, .int 0, .int 0, .int 0, .int 0, .ref t0, .ref t1, .ref t2, .ref t3, .ref t4, .ref t5, .ref t6, .ref t7, .ref t8, .ref t9]))]) [1] (by decide) rfl
  have hKc := hK.sub (tys' := []) [] rfl
  have hFc := va_free (wc := [(x_current, .inr (7, [.int 0, .int 0, .int 0, .int 0, .int 0, .int 0, .int 0, .int 0, .ref t0, .ref t1, .ref t2, .ref t3, .ref t4, .ref t5, .ref t6, .ref t7, .ref t8, .ref t9]))]) hD hS hA [1] rfl
  refine va_calli (va_runV (As := [.int a]) (rest := []) ⟨hx, hb, hml, hown, hts⟩ (c_isPerson l dC dI s.heap.size x_current t0 t1 t2 t3 t4 t5 t6 t7 t8 t9 a ) (cwV 1 hts (goodV w_538 w_539 w_540 w_23 w_541) rfl rfl rfl hdV_X7_isPerson ⟨Nat.le_of_ble_eq_true rfl, Nat.le_of_ble_eq_true rfl⟩) ⟨fun a U g mk q => by obtain ⟨q0, q1, qP, qK, qD⟩ := q; exact ⟨q0, q1, qP, va_K.moved (u := U) (U := U.calling g mk a) (Vm.Alike.refl U.vm) qK, qD⟩, va_recv hKc hPc (ci := 7) (q0 := 0) rfl rfl, fun U hU hW => ⟨rfl, by rw [hU], by rw [hU]; exact hPc, va_K.moved hW.alike hKc, hDc.weaken (fun _ _ _ _ => trivial)⟩⟩ rfl rfl hl.1 rfl (lv_room (Nat.le_of_ble_eq_true rfl)) dX8_burn_5 ⟨Nat.le_of_ble_eq_true rfl, Nat.le_of_ble_eq_true rfl⟩) hS (fun q _ h => hFc q h) hFc (fun r_1 u t H1 locs ht hvm hw hB hz1 hk1 hS => ?_)
  obtain ⟨hP1, hK1, hD1⟩ := hB
  rw [ht] at hP1
  have hK1 := va_K.moved hvm.symm hK1
  obtain ⟨hP, hD⟩ := va_join (wr := [(h0, .inr (8, [.ref x_tape, .ref x_reader, .ref x_current, .ref x_images, .ref x_kept, .ref x_slots, .ref x_diary, .ref x_base, .ref x_trial, .ref x_plan, .ref x_orders, .ref x_unanswered, .int 0, .int 0, .int (-1)]))]) (w1 := [(x_current, .inr (7, [.int 0, .int 0, .int 0, .int 0, .int 0, .int 0, .int 0, .int 0, .ref t0, .ref t1, .ref t2, .ref t3, .ref t4, .ref t5, .ref t6, .ref t7, .ref t8, .ref t9]))]) hP hD [1] [0] rfl rfl (by decide) (by decide) hk1 hFc hP1 hD1
  clear hPc hDc hKc hFc
  generalize H1 = H at hP hS ⊢
  have hP : va_P (dC, dI) vwCl [(h0, .inr (8, [.ref x_tape, .ref x_reader, .ref x_current, .ref x_images, .ref x_kept, .ref x_slots, .ref x_diary, .ref x_base, .ref x_trial, .ref x_plan, .ref x_orders, .ref x_unanswered, .int 0, .int 0, .int (-1)])), (x_current, .inr (7, [.int 0, .int 0, .int 0, .int 0, .int 0, .int 0, .int 0, .int 0, .ref t0, .ref t1, .ref t2, .ref t3, .ref t4, .ref t5, .ref t6, .ref t7, .ref t8, .ref t9]))] H := hP
  have hD : va_D A [(h0, .inr (8, [.ref x_tape, .ref x_reader, .ref x_current, .ref x_images, .ref x_kept, .ref x_slots, .ref x_diary, .ref x_base, .ref x_trial, .ref x_plan, .ref x_orders, .ref x_unanswered, .int 0, .int 0, .int (-1)])), (x_current, .inr (7, [.int 0, .int 0, .int 0, .int 0, .int 0, .int 0, .int 0, .int 0, .ref t0, .ref t1, .ref t2, .ref t3, .ref t4, .ref t5, .ref t6, .ref t7, .ref t8, .ref t9]))] := hD
  have hw : r_1 = 0 := hw
  subst hw
  refine lv_if_eq (tgt := 22) hx hb dX8_burn_8 (by decide) (fun c_2 => ?_) (fun c_2 => absurd (by decide) c_2)
  refine lv_bipush (v := (-2)) hx hb dX8_burn_22 (by decide) ?_
  exact W.iret (v := (-2)) hx hb hr (fun t ht hW => ⟨⟨(-2), (), rfl, rfl, trivial⟩, hS.F ht⟩) hS.2.2 dX8_burn_24
set_option maxHeartbeats 4000000 in
set_option maxRecDepth 100000 in
theorem x_untie (l : Launch) (dC : Nat → ClassId) (dI : Nat → Nat → Nat) (sz : Nat) (h0 : Nat) (x_tape : Nat) (x_reader : Nat) (x_current : Nat) (x_images : Nat) (x_kept : Nat) (x_slots : Nat) (x_diary : Nat) (x_base : Nat) (x_trial : Nat) (x_plan : Nat) (x_orders : Nat) (x_unanswered : Nat) (t0 : Nat) (t1 : Nat) (t2 : Nat) (t3 : Nat) (t4 : Nat) (t5 : Nat) (t6 : Nat) (t7 : Nat) (t8 : Nat) (t9 : Nat) (a : Int32)  : Met l yX8_untie (.code yX8_untie cX8_untie 4 (some .int) :: ALLW) ({ frames := 1, cells := 0, slots := 0, locals := 20 }) (va_Pc [.ref h0, .int a] (fun U => U.heap.size = sz ∧ va_P (dC, dI) vwCl [(h0, .inr (8, [.ref x_tape, .ref x_reader, .ref x_current, .ref x_images, .ref x_kept, .ref x_slots, .ref x_diary, .ref x_base, .ref x_trial, .ref x_plan, .ref x_orders, .ref x_unanswered, .int 0, .int 0, .int (-1)])), (x_current, .inr (7, [.int 0, .int 0, .int 0, .int 0, .int 0, .int 0, .int 0, .int 0, .ref t0, .ref t1, .ref t2, .ref t3, .ref t4, .ref t5, .ref t6, .ref t7, .ref t8, .ref t9]))] U.heap ∧ va_K (dC, dI) vwCl [] U ∧ va_D (fun _ => True) [(h0, .inr (8, [.ref x_tape, .ref x_reader, .ref x_current, .ref x_images, .ref x_kept, .ref x_slots, .ref x_diary, .ref x_base, .ref x_trial, .ref x_plan, .ref x_orders, .ref x_unanswered, .int 0, .int 0, .int (-1)])), (x_current, .inr (7, [.int 0, .int 0, .int 0, .int 0, .int 0, .int 0, .int 0, .int 0, .ref t0, .ref t1, .ref t2, .ref t3, .ref t4, .ref t5, .ref t6, .ref t7, .ref t8, .ref t9]))])) (va_Qi (fun (r : Int32) (_ : Unit) => r = (-2)) (fun (_ : Unit) (_ : State) => True) (va_A [(h0, .inr (8, [.ref x_tape, .ref x_reader, .ref x_current, .ref x_images, .ref x_kept, .ref x_slots, .ref x_diary, .ref x_base, .ref x_trial, .ref x_plan, .ref x_orders, .ref x_unanswered, .int 0, .int 0, .int (-1)])), (x_current, .inr (7, [.int 0, .int 0, .int 0, .int 0, .int 0, .int 0, .int 0, .int 0, .ref t0, .ref t1, .ref t2, .ref t3, .ref t4, .ref t5, .ref t6, .ref t7, .ref t8, .ref t9]))] sz)) 0 0 (va_A [(h0, .inr (8, [.ref x_tape, .ref x_reader, .ref x_current, .ref x_images, .ref x_kept, .ref x_slots, .ref x_diary, .ref x_base, .ref x_trial, .ref x_plan, .ref x_orders, .ref x_unanswered, .int 0, .int 0, .int (-1)])), (x_current, .inr (7, [.int 0, .int 0, .int 0, .int 0, .int 0, .int 0, .int 0, .int 0, .ref t0, .ref t1, .ref t2, .ref t3, .ref t4, .ref t5, .ref t6, .ref t7, .ref t8, .ref t9]))] sz) := by
  refine Met.ofW (cc := cX8_untie) (maxL := 4) (ret := (some .int)) (by decide) rfl ?_
  intro p e s m args below meth c s₁ B hml hv
  obtain ⟨rfl, hsz, hP, hK, hD0⟩ := hv
  have hx := B.exec
  have hb := B.bytes
  have hr := B.returns
  have hts0 := atoms_spec (ws := (.code yX8_untie cX8_untie 4 (some .int) :: ALLW)) B.pre
  have hts := fun (w : Cond) (h : w ∈ ALLW) => hts0 w (List.mem_cons_of_mem _ h)
  have hown : s.vm.findClass RX8 = some m.cls := findClass_of_methodNamed B.named
  have hlocks := B.notSynchronized
  subst hsz
  have hD := hD0.self (sz := s.heap.size)
  generalize hAe : va_A [(h0, .inr (8, [.ref x_tape, .ref x_reader, .ref x_current, .ref x_images, .ref x_kept, .ref x_slots, .ref x_diary, .ref x_base, .ref x_trial, .ref x_plan, .ref x_orders, .ref x_unanswered, .int 0, .int 0, .int (-1)])), (x_current, .inr (7, [.int 0, .int 0, .int 0, .int 0, .int 0, .int 0, .int 0, .int 0, .ref t0, .ref t1, .ref t2, .ref t3, .ref t4, .ref t5, .ref t6, .ref t7, .ref t8, .ref t9]))] s.heap.size = A at hD ⊢
  have hA : ∀ q : Nat, s.heap.size ≤ q → A q := fun q h => by rw [← hAe]; exact Or.inr h
  have hS : va_S A s.heap s.heap [] := va_S.rf
  have hP : va_P (dC, dI) vwCl [(h0, .inr (8, [.ref x_tape, .ref x_reader, .ref x_current, .ref x_images, .ref x_kept, .ref x_slots, .ref x_diary, .ref x_base, .ref x_trial, .ref x_plan, .ref x_orders, .ref x_unanswered, .int 0, .int 0, .int (-1)])), (x_current, .inr (7, [.int 0, .int 0, .int 0, .int 0, .int 0, .int 0, .int 0, .int 0, .ref t0, .ref t1, .ref t2, .ref t3, .ref t4, .ref t5, .ref t6, .ref t7, .ref t8, .ref t9]))] s.heap := hP
  have hl := lv_entry ([.ref h0, .int a]) (n := 4) (Nat.le_of_ble_eq_true rfl)
  rw [lg_entry_eq]
  generalize (lg_sl ([.ref h0, .int a]) ++ List.replicate (4 - (lg_sl ([.ref h0, .int a])).length) Slot.unset).toArray = ls at hl ⊢
  have hl : lv_has ls 4 [(0, .ref h0), (1, .int a)] := hl
  refine lv_aload_n hx hb dX8_untie_0 rfl (lv_at hl 0 rfl) ?_
  have hPc := hP.sub (ws' := [(h0, .inr (8, [.ref x_tape, .ref x_reader, .ref x_current, .ref x_images, .ref x_kept, .ref x_slots, .ref x_diary, .ref x_base, .ref x_trial, .ref x_plan, .ref x_orders, .ref x_unanswered, .int 0, .int 0, .int (-1)])), (x_current, .inr (7, [.int 0, .int 0, .int 0, .int 0, .int 0, .int 0, .int 0, .int 0, .ref t0, .ref t1, .ref t2, .ref t3, .ref t4, .ref t5, .ref t6, .ref t7, .ref t8, .ref t9]))]) [0, 1] rfl
  have hDc := hD.sub (ws' := [(h0, .inr (8, [.ref x_tape, .ref x_reader, .ref x_current, .ref x_images, .ref x_kept, .ref x_slots, .ref x_diary, .ref x_base, .ref x_trial, .ref x_plan, .ref x_orders, .ref x_unanswered, .int 0, .int 0, .int (-1)])), (x_current, .inr (7, [.int 0, .int 0, .int 0, .int 0, .int 0, .int 0, .int 0, .int 0, .ref t0, .ref t1, .ref t2, .ref t3, .ref t4, .ref t5, .ref t6, .ref t7, .ref t8, .ref t9]))]) [0, 1] (by decide) rfl
  have hKc := hK.sub (tys' := []) [] rfl
  have hFc := va_free (wc := [(h0, .inr (8, [.ref x_tape, .ref x_reader, .ref x_current, .ref x_images, .ref x_kept, .ref x_slots, .ref x_diary, .ref x_base, .ref x_trial, .ref x_plan, .ref x_orders, .ref x_unanswered, .int 0, .int 0, .int (-1)])), (x_current, .inr (7, [.int 0, .int 0, .int 0, .int 0, .int 0, .int 0, .int 0, .int 0, .ref t0, .ref t1, .ref t2, .ref t3, .ref t4, .ref t5, .ref t6, .ref t7, .ref t8, .ref t9]))]) hD hS hA [0, 1] rfl
  refine va_calli (va_runV (As := []) (rest := []) ⟨hx, hb, hml, hown, hts⟩ (c_noTown l dC dI s.heap.size h0 x_tape x_reader x_current x_images x_kept x_slots x_diary x_base x_trial x_plan x_orders x_unanswered t0 t1 t2 t3 t4 t5 t6 t7 t8 t9 ) (cwV 0 hts (goodV w_817 w_818 w_819 w_2 w_820) rfl rfl rfl hdV_X8_noTown ⟨Nat.le_of_ble_eq_true rfl, Nat.le_of_ble_eq_true rfl⟩) ⟨fun a U g mk q => by obtain ⟨q0, q1, qP, qK, qD⟩ := q; exact ⟨q0, q1, qP, va_K.moved (u := U) (U := U.calling g mk a) (Vm.Alike.refl U.vm) qK, qD⟩, va_recv hKc hPc (ci := 8) (q0 := 0) rfl rfl, fun U hU hW => ⟨rfl, by rw [hU], by rw [hU]; exact hPc, va_K.moved hW.alike hKc, hDc.weaken (fun _ _ _ _ => trivial)⟩⟩ rfl rfl hl.1 rfl (lv_room (Nat.le_of_ble_eq_true rfl)) dX8_untie_1 ⟨Nat.le_of_ble_eq_true rfl, Nat.le_of_ble_eq_true rfl⟩) hS (fun q _ h => hFc q h) hFc (fun r_1 u t H1 locs ht hvm hw hB hz1 hk1 hS => ?_)
  obtain ⟨hP1, hK1, hD1⟩ := hB
  rw [ht] at hP1
  have hK1 := va_K.moved hvm.symm hK1
  obtain ⟨hP, hD⟩ := va_join (wr := []) (w1 := [(h0, .inr (8, [.ref x_tape, .ref x_reader, .ref x_current, .ref x_images, .ref x_kept, .ref x_slots, .ref x_diary, .ref x_base, .ref x_trial, .ref x_plan, .ref x_orders, .ref x_unanswered, .int 0, .int 0, .int (-1)])), (x_current, .inr (7, [.int 0, .int 0, .int 0, .int 0, .int 0, .int 0, .int 0, .int 0, .ref t0, .ref t1, .ref t2, .ref t3, .ref t4, .ref t5, .ref t6, .ref t7, .ref t8, .ref t9]))]) hP hD [0, 1] [] rfl rfl (by decide) (by decide) hk1 hFc hP1 hD1
  clear hPc hDc hKc hFc
  generalize H1 = H at hP hS ⊢
  have hP : va_P (dC, dI) vwCl [(h0, .inr (8, [.ref x_tape, .ref x_reader, .ref x_current, .ref x_images, .ref x_kept, .ref x_slots, .ref x_diary, .ref x_base, .ref x_trial, .ref x_plan, .ref x_orders, .ref x_unanswered, .int 0, .int 0, .int (-1)])), (x_current, .inr (7, [.int 0, .int 0, .int 0, .int 0, .int 0, .int 0, .int 0, .int 0, .ref t0, .ref t1, .ref t2, .ref t3, .ref t4, .ref t5, .ref t6, .ref t7, .ref t8, .ref t9]))] H := hP
  have hD : va_D A [(h0, .inr (8, [.ref x_tape, .ref x_reader, .ref x_current, .ref x_images, .ref x_kept, .ref x_slots, .ref x_diary, .ref x_base, .ref x_trial, .ref x_plan, .ref x_orders, .ref x_unanswered, .int 0, .int 0, .int (-1)])), (x_current, .inr (7, [.int 0, .int 0, .int 0, .int 0, .int 0, .int 0, .int 0, .int 0, .ref t0, .ref t1, .ref t2, .ref t3, .ref t4, .ref t5, .ref t6, .ref t7, .ref t8, .ref t9]))] := hD
  have hw : r_1 = 1 := hw
  subst hw
  refine lv_if_ne (tgt := 16) hx hb dX8_untie_4 (by decide) (fun c_2 => ?_) (fun c_2 => absurd c_2 (by decide))
  refine lv_bipush (v := (-2)) hx hb dX8_untie_16 (by decide) ?_
  exact W.iret (v := (-2)) hx hb hr (fun t ht hW => ⟨⟨(-2), (), rfl, rfl, trivial⟩, hS.F ht⟩) hS.2.2 dX8_untie_18
set_option maxHeartbeats 4000000 in
set_option maxRecDepth 100000 in
theorem x_chance (l : Launch) (dC : Nat → ClassId) (dI : Nat → Nat → Nat) (sz : Nat) (h0 : Nat) (x_tape : Nat) (x_reader : Nat) (x_current : Nat) (x_images : Nat) (x_kept : Nat) (x_slots : Nat) (x_diary : Nat) (x_base : Nat) (x_trial : Nat) (x_plan : Nat) (x_orders : Nat) (x_unanswered : Nat) (t0 : Nat) (t1 : Nat) (t2 : Nat) (t3 : Nat) (t4 : Nat) (t5 : Nat) (t6 : Nat) (t7 : Nat) (t8 : Nat) (t9 : Nat) (a : Int32) (b : Int32) (d_ : Int32) (g_ : Int32)  : Met l yX8_chance (.code yX8_chance cX8_chance 8 (some .int) :: ALLW) ({ frames := 1, cells := 0, slots := 0, locals := 21 }) (va_Pc [.ref h0, .int a, .int b, .int d_, .int g_] (fun U => U.heap.size = sz ∧ va_P (dC, dI) vwCl [(h0, .inr (8, [.ref x_tape, .ref x_reader, .ref x_current, .ref x_images, .ref x_kept, .ref x_slots, .ref x_diary, .ref x_base, .ref x_trial, .ref x_plan, .ref x_orders, .ref x_unanswered, .int 0, .int 0, .int (-1)])), (x_current, .inr (7, [.int 0, .int 0, .int 0, .int 0, .int 0, .int 0, .int 0, .int 0, .ref t0, .ref t1, .ref t2, .ref t3, .ref t4, .ref t5, .ref t6, .ref t7, .ref t8, .ref t9]))] U.heap ∧ va_K (dC, dI) vwCl [] U ∧ va_D (fun _ => True) [(h0, .inr (8, [.ref x_tape, .ref x_reader, .ref x_current, .ref x_images, .ref x_kept, .ref x_slots, .ref x_diary, .ref x_base, .ref x_trial, .ref x_plan, .ref x_orders, .ref x_unanswered, .int 0, .int 0, .int (-1)])), (x_current, .inr (7, [.int 0, .int 0, .int 0, .int 0, .int 0, .int 0, .int 0, .int 0, .ref t0, .ref t1, .ref t2, .ref t3, .ref t4, .ref t5, .ref t6, .ref t7, .ref t8, .ref t9]))])) (va_Qi (fun (r : Int32) (_ : Unit) => r = (-2)) (fun (_ : Unit) (_ : State) => True) (va_A [(h0, .inr (8, [.ref x_tape, .ref x_reader, .ref x_current, .ref x_images, .ref x_kept, .ref x_slots, .ref x_diary, .ref x_base, .ref x_trial, .ref x_plan, .ref x_orders, .ref x_unanswered, .int 0, .int 0, .int (-1)])), (x_current, .inr (7, [.int 0, .int 0, .int 0, .int 0, .int 0, .int 0, .int 0, .int 0, .ref t0, .ref t1, .ref t2, .ref t3, .ref t4, .ref t5, .ref t6, .ref t7, .ref t8, .ref t9]))] sz)) 0 0 (va_A [(h0, .inr (8, [.ref x_tape, .ref x_reader, .ref x_current, .ref x_images, .ref x_kept, .ref x_slots, .ref x_diary, .ref x_base, .ref x_trial, .ref x_plan, .ref x_orders, .ref x_unanswered, .int 0, .int 0, .int (-1)])), (x_current, .inr (7, [.int 0, .int 0, .int 0, .int 0, .int 0, .int 0, .int 0, .int 0, .ref t0, .ref t1, .ref t2, .ref t3, .ref t4, .ref t5, .ref t6, .ref t7, .ref t8, .ref t9]))] sz) := by
  refine Met.ofW (cc := cX8_chance) (maxL := 8) (ret := (some .int)) (by decide) rfl ?_
  intro p e s m args below meth c s₁ B hml hv
  obtain ⟨rfl, hsz, hP, hK, hD0⟩ := hv
  have hx := B.exec
  have hb := B.bytes
  have hr := B.returns
  have hts0 := atoms_spec (ws := (.code yX8_chance cX8_chance 8 (some .int) :: ALLW)) B.pre
  have hts := fun (w : Cond) (h : w ∈ ALLW) => hts0 w (List.mem_cons_of_mem _ h)
  have hown : s.vm.findClass RX8 = some m.cls := findClass_of_methodNamed B.named
  have hlocks := B.notSynchronized
  subst hsz
  have hD := hD0.self (sz := s.heap.size)
  generalize hAe : va_A [(h0, .inr (8, [.ref x_tape, .ref x_reader, .ref x_current, .ref x_images, .ref x_kept, .ref x_slots, .ref x_diary, .ref x_base, .ref x_trial, .ref x_plan, .ref x_orders, .ref x_unanswered, .int 0, .int 0, .int (-1)])), (x_current, .inr (7, [.int 0, .int 0, .int 0, .int 0, .int 0, .int 0, .int 0, .int 0, .ref t0, .ref t1, .ref t2, .ref t3, .ref t4, .ref t5, .ref t6, .ref t7, .ref t8, .ref t9]))] s.heap.size = A at hD ⊢
  have hA : ∀ q : Nat, s.heap.size ≤ q → A q := fun q h => by rw [← hAe]; exact Or.inr h
  have hS : va_S A s.heap s.heap [] := va_S.rf
  have hP : va_P (dC, dI) vwCl [(h0, .inr (8, [.ref x_tape, .ref x_reader, .ref x_current, .ref x_images, .ref x_kept, .ref x_slots, .ref x_diary, .ref x_base, .ref x_trial, .ref x_plan, .ref x_orders, .ref x_unanswered, .int 0, .int 0, .int (-1)])), (x_current, .inr (7, [.int 0, .int 0, .int 0, .int 0, .int 0, .int 0, .int 0, .int 0, .ref t0, .ref t1, .ref t2, .ref t3, .ref t4, .ref t5, .ref t6, .ref t7, .ref t8, .ref t9]))] s.heap := hP
  have hl := lv_entry ([.ref h0, .int a, .int b, .int d_, .int g_]) (n := 8) (Nat.le_of_ble_eq_true rfl)
  rw [lg_entry_eq]
  generalize (lg_sl ([.ref h0, .int a, .int b, .int d_, .int g_]) ++ List.replicate (8 - (lg_sl ([.ref h0, .int a, .int b, .int d_, .int g_])).length) Slot.unset).toArray = ls at hl ⊢
  have hl : lv_has ls 8 [(0, .ref h0), (1, .int a), (2, .int b), (3, .int d_), (4, .int g_)] := hl
  refine lv_aload_n hx hb dX8_chance_0 rfl (lv_at hl 0 rfl) ?_
  refine va_get (D := (dC, dI)) (ci := 8) (v := .ref x_current) (C := RX8) (T := TX8) (N := 15) hx hb hts inA8 hown hK hP 0 rfl rfl 2 (by decide) (hts _ w_24) (fun _ h9 => h9) rfl dX8_chance_1 ?_
  refine lv_iload_n hx hb dX8_chance_4 rfl (lv_at hl 1 rfl) ?_
  have hPc := hP.sub (ws' := [(x_current, .inr (7, [.int 0, .int 0, .int 0, .int 0, .int 0, .int 0, .int 0, .int 0, .ref t0, .ref t1, .ref t2, .ref t3, .ref t4, .ref t5, .ref t6, .ref t7, .ref t8, .ref t9]))]) [1] rfl
  have hDc := hD.sub (ws' := [(x_current, .inr (7, [.int 0, .int 0, .int 0, .int 0, .int 0, .int 0, .int 0, .int 0, .ref t0, .ref t1, .ref t2, .ref t3, .ref t4, .ref t5, .ref t6, .ref t7, .ref t8, .ref t9]))]) [1] (by decide) rfl
  have hKc := hK.sub (tys' := []) [] rfl
  have hFc := va_free (wc := [(x_current, .inr (7, [.int 0, .int 0, .int 0, .int 0, .int 0, .int 0, .int 0, .int 0, .ref t0, .ref t1, .ref t2, .ref t3, .ref t4, .ref t5, .ref t6, .ref t7, .ref t8, .ref t9]))]) hD hS hA [1] rfl
  refine va_calli (va_runV (As := [.int a]) (rest := []) ⟨hx, hb, hml, hown, hts⟩ (c_isTold l dC dI s.heap.size x_current t0 t1 t2 t3 t4 t5 t6 t7 t8 t9 a ) (cwV 1 hts (goodV w_806 w_568 w_569 w_23 w_570) rfl rfl rfl hdV_X7_isTold ⟨Nat.le_of_ble_eq_true rfl, Nat.le_of_ble_eq_true rfl⟩) ⟨fun a U g mk q => by obtain ⟨q0, q1, qP, qK, qD⟩ := q; exact ⟨q0, q1, qP, va_K.moved (u := U) (U := U.calling g mk a) (Vm.Alike.refl U.vm) qK, qD⟩, va_recv hKc hPc (ci := 7) (q0 := 0) rfl rfl, fun U hU hW => ⟨rfl, by rw [hU], by rw [hU]; exact hPc, va_K.moved hW.alike hKc, hDc.weaken (fun _ _ _ _ => trivial)⟩⟩ rfl rfl hl.1 rfl (lv_room (Nat.le_of_ble_eq_true rfl)) dX8_chance_5 ⟨Nat.le_of_ble_eq_true rfl, Nat.le_of_ble_eq_true rfl⟩) hS (fun q _ h => hFc q h) hFc (fun r_1 u t H1 locs ht hvm hw hB hz1 hk1 hS => ?_)
  obtain ⟨hP1, hK1, hD1⟩ := hB
  rw [ht] at hP1
  have hK1 := va_K.moved hvm.symm hK1
  obtain ⟨hP, hD⟩ := va_join (wr := [(h0, .inr (8, [.ref x_tape, .ref x_reader, .ref x_current, .ref x_images, .ref x_kept, .ref x_slots, .ref x_diary, .ref x_base, .ref x_trial, .ref x_plan, .ref x_orders, .ref x_unanswered, .int 0, .int 0, .int (-1)]))]) (w1 := [(x_current, .inr (7, [.int 0, .int 0, .int 0, .int 0, .int 0, .int 0, .int 0, .int 0, .ref t0, .ref t1, .ref t2, .ref t3, .ref t4, .ref t5, .ref t6, .ref t7, .ref t8, .ref t9]))]) hP hD [1] [0] rfl rfl (by decide) (by decide) hk1 hFc hP1 hD1
  clear hPc hDc hKc hFc
  generalize H1 = H at hP hS ⊢
  have hP : va_P (dC, dI) vwCl [(h0, .inr (8, [.ref x_tape, .ref x_reader, .ref x_current, .ref x_images, .ref x_kept, .ref x_slots, .ref x_diary, .ref x_base, .ref x_trial, .ref x_plan, .ref x_orders, .ref x_unanswered, .int 0, .int 0, .int (-1)])), (x_current, .inr (7, [.int 0, .int 0, .int 0, .int 0, .int 0, .int 0, .int 0, .int 0, .ref t0, .ref t1, .ref t2, .ref t3, .ref t4, .ref t5, .ref t6, .ref t7, .ref t8, .ref t9]))] H := hP
  have hD : va_D A [(h0, .inr (8, [.ref x_tape, .ref x_reader, .ref x_current, .ref x_images, .ref x_kept, .ref x_slots, .ref x_diary, .ref x_base, .ref x_trial, .ref x_plan, .ref x_orders, .ref x_unanswered, .int 0, .int 0, .int (-1)])), (x_current, .inr (7, [.int 0, .int 0, .int 0, .int 0, .int 0, .int 0, .int 0, .int 0, .ref t0, .ref t1, .ref t2, .ref t3, .ref t4, .ref t5, .ref t6, .ref t7, .ref t8, .ref t9]))] := hD
  have hw : r_1 = 0 := hw
  subst hw
  refine lv_if_eq (tgt := 41) hx hb dX8_chance_8 (by decide) (fun c_2 => ?_) (fun c_2 => absurd (by decide) c_2)
  refine lv_bipush (v := (-2)) hx hb dX8_chance_41 (by decide) ?_
  exact W.iret (v := (-2)) hx hb hr (fun t ht hW => ⟨⟨(-2), (), rfl, rfl, trivial⟩, hS.F ht⟩) hS.2.2 dX8_chance_43
set_option maxHeartbeats 4000000 in
set_option maxRecDepth 100000 in
theorem x_judge (l : Launch) (dC : Nat → ClassId) (dI : Nat → Nat → Nat) (sz : Nat) (h0 : Nat) (x_tape : Nat) (x_reader : Nat) (x_current : Nat) (x_images : Nat) (x_kept : Nat) (x_slots : Nat) (x_diary : Nat) (x_base : Nat) (x_trial : Nat) (x_plan : Nat) (x_orders : Nat) (x_unanswered : Nat) (t0 : Nat) (t1 : Nat) (t2 : Nat) (t3 : Nat) (t4 : Nat) (t5 : Nat) (t6 : Nat) (t7 : Nat) (t8 : Nat) (t9 : Nat) (a : Int32)  : Met l yX8_judge (.code yX8_judge cX8_judge 7 (some .int) :: ALLW) ({ frames := 1, cells := 0, slots := 0, locals := 20 }) (va_Pc [.ref h0, .int a] (fun U => U.heap.size = sz ∧ va_P (dC, dI) vwCl [(h0, .inr (8, [.ref x_tape, .ref x_reader, .ref x_current, .ref x_images, .ref x_kept, .ref x_slots, .ref x_diary, .ref x_base, .ref x_trial, .ref x_plan, .ref x_orders, .ref x_unanswered, .int 0, .int 0, .int (-1)])), (x_current, .inr (7, [.int 0, .int 0, .int 0, .int 0, .int 0, .int 0, .int 0, .int 0, .ref t0, .ref t1, .ref t2, .ref t3, .ref t4, .ref t5, .ref t6, .ref t7, .ref t8, .ref t9]))] U.heap ∧ va_K (dC, dI) vwCl [] U ∧ va_D (fun _ => True) [(h0, .inr (8, [.ref x_tape, .ref x_reader, .ref x_current, .ref x_images, .ref x_kept, .ref x_slots, .ref x_diary, .ref x_base, .ref x_trial, .ref x_plan, .ref x_orders, .ref x_unanswered, .int 0, .int 0, .int (-1)])), (x_current, .inr (7, [.int 0, .int 0, .int 0, .int 0, .int 0, .int 0, .int 0, .int 0, .ref t0, .ref t1, .ref t2, .ref t3, .ref t4, .ref t5, .ref t6, .ref t7, .ref t8, .ref t9]))])) (va_Qi (fun (r : Int32) (_ : Unit) => r = (-2)) (fun (_ : Unit) (_ : State) => True) (va_A [(h0, .inr (8, [.ref x_tape, .ref x_reader, .ref x_current, .ref x_images, .ref x_kept, .ref x_slots, .ref x_diary, .ref x_base, .ref x_trial, .ref x_plan, .ref x_orders, .ref x_unanswered, .int 0, .int 0, .int (-1)])), (x_current, .inr (7, [.int 0, .int 0, .int 0, .int 0, .int 0, .int 0, .int 0, .int 0, .ref t0, .ref t1, .ref t2, .ref t3, .ref t4, .ref t5, .ref t6, .ref t7, .ref t8, .ref t9]))] sz)) 0 0 (va_A [(h0, .inr (8, [.ref x_tape, .ref x_reader, .ref x_current, .ref x_images, .ref x_kept, .ref x_slots, .ref x_diary, .ref x_base, .ref x_trial, .ref x_plan, .ref x_orders, .ref x_unanswered, .int 0, .int 0, .int (-1)])), (x_current, .inr (7, [.int 0, .int 0, .int 0, .int 0, .int 0, .int 0, .int 0, .int 0, .ref t0, .ref t1, .ref t2, .ref t3, .ref t4, .ref t5, .ref t6, .ref t7, .ref t8, .ref t9]))] sz) := by
  refine Met.ofW (cc := cX8_judge) (maxL := 7) (ret := (some .int)) (by decide) rfl ?_
  intro p e s m args below meth c s₁ B hml hv
  obtain ⟨rfl, hsz, hP, hK, hD0⟩ := hv
  have hx := B.exec
  have hb := B.bytes
  have hr := B.returns
  have hts0 := atoms_spec (ws := (.code yX8_judge cX8_judge 7 (some .int) :: ALLW)) B.pre
  have hts := fun (w : Cond) (h : w ∈ ALLW) => hts0 w (List.mem_cons_of_mem _ h)
  have hown : s.vm.findClass RX8 = some m.cls := findClass_of_methodNamed B.named
  have hlocks := B.notSynchronized
  subst hsz
  have hD := hD0.self (sz := s.heap.size)
  generalize hAe : va_A [(h0, .inr (8, [.ref x_tape, .ref x_reader, .ref x_current, .ref x_images, .ref x_kept, .ref x_slots, .ref x_diary, .ref x_base, .ref x_trial, .ref x_plan, .ref x_orders, .ref x_unanswered, .int 0, .int 0, .int (-1)])), (x_current, .inr (7, [.int 0, .int 0, .int 0, .int 0, .int 0, .int 0, .int 0, .int 0, .ref t0, .ref t1, .ref t2, .ref t3, .ref t4, .ref t5, .ref t6, .ref t7, .ref t8, .ref t9]))] s.heap.size = A at hD ⊢
  have hA : ∀ q : Nat, s.heap.size ≤ q → A q := fun q h => by rw [← hAe]; exact Or.inr h
  have hS : va_S A s.heap s.heap [] := va_S.rf
  have hP : va_P (dC, dI) vwCl [(h0, .inr (8, [.ref x_tape, .ref x_reader, .ref x_current, .ref x_images, .ref x_kept, .ref x_slots, .ref x_diary, .ref x_base, .ref x_trial, .ref x_plan, .ref x_orders, .ref x_unanswered, .int 0, .int 0, .int (-1)])), (x_current, .inr (7, [.int 0, .int 0, .int 0, .int 0, .int 0, .int 0, .int 0, .int 0, .ref t0, .ref t1, .ref t2, .ref t3, .ref t4, .ref t5, .ref t6, .ref t7, .ref t8, .ref t9]))] s.heap := hP
  have hl := lv_entry ([.ref h0, .int a]) (n := 7) (Nat.le_of_ble_eq_true rfl)
  rw [lg_entry_eq]
  generalize (lg_sl ([.ref h0, .int a]) ++ List.replicate (7 - (lg_sl ([.ref h0, .int a])).length) Slot.unset).toArray = ls at hl ⊢
  have hl : lv_has ls 7 [(0, .ref h0), (1, .int a)] := hl
  refine lv_aload_n hx hb dX8_judge_0 rfl (lv_at hl 0 rfl) ?_
  have hPc := hP.sub (ws' := [(h0, .inr (8, [.ref x_tape, .ref x_reader, .ref x_current, .ref x_images, .ref x_kept, .ref x_slots, .ref x_diary, .ref x_base, .ref x_trial, .ref x_plan, .ref x_orders, .ref x_unanswered, .int 0, .int 0, .int (-1)])), (x_current, .inr (7, [.int 0, .int 0, .int 0, .int 0, .int 0, .int 0, .int 0, .int 0, .ref t0, .ref t1, .ref t2, .ref t3, .ref t4, .ref t5, .ref t6, .ref t7, .ref t8, .ref t9]))]) [0, 1] rfl
  have hDc := hD.sub (ws' := [(h0, .inr (8, [.ref x_tape, .ref x_reader, .ref x_current, .ref x_images, .ref x_kept, .ref x_slots, .ref x_diary, .ref x_base, .ref x_trial, .ref x_plan, .ref x_orders, .ref x_unanswered, .int 0, .int 0, .int (-1)])), (x_current, .inr (7, [.int 0, .int 0, .int 0, .int 0, .int 0, .int 0, .int 0, .int 0, .ref t0, .ref t1, .ref t2, .ref t3, .ref t4, .ref t5, .ref t6, .ref t7, .ref t8, .ref t9]))]) [0, 1] (by decide) rfl
  have hKc := hK.sub (tys' := []) [] rfl
  have hFc := va_free (wc := [(h0, .inr (8, [.ref x_tape, .ref x_reader, .ref x_current, .ref x_images, .ref x_kept, .ref x_slots, .ref x_diary, .ref x_base, .ref x_trial, .ref x_plan, .ref x_orders, .ref x_unanswered, .int 0, .int 0, .int (-1)])), (x_current, .inr (7, [.int 0, .int 0, .int 0, .int 0, .int 0, .int 0, .int 0, .int 0, .ref t0, .ref t1, .ref t2, .ref t3, .ref t4, .ref t5, .ref t6, .ref t7, .ref t8, .ref t9]))]) hD hS hA [0, 1] rfl
  refine va_calli (va_runV (As := []) (rest := []) ⟨hx, hb, hml, hown, hts⟩ (c_noTown l dC dI s.heap.size h0 x_tape x_reader x_current x_images x_kept x_slots x_diary x_base x_trial x_plan x_orders x_unanswered t0 t1 t2 t3 t4 t5 t6 t7 t8 t9 ) (cwV 0 hts (goodV w_817 w_818 w_819 w_2 w_820) rfl rfl rfl hdV_X8_noTown ⟨Nat.le_of_ble_eq_true rfl, Nat.le_of_ble_eq_true rfl⟩) ⟨fun a U g mk q => by obtain ⟨q0, q1, qP, qK, qD⟩ := q; exact ⟨q0, q1, qP, va_K.moved (u := U) (U := U.calling g mk a) (Vm.Alike.refl U.vm) qK, qD⟩, va_recv hKc hPc (ci := 8) (q0 := 0) rfl rfl, fun U hU hW => ⟨rfl, by rw [hU], by rw [hU]; exact hPc, va_K.moved hW.alike hKc, hDc.weaken (fun _ _ _ _ => trivial)⟩⟩ rfl rfl hl.1 rfl (lv_room (Nat.le_of_ble_eq_true rfl)) dX8_judge_1 ⟨Nat.le_of_ble_eq_true rfl, Nat.le_of_ble_eq_true rfl⟩) hS (fun q _ h => hFc q h) hFc (fun r_1 u t H1 locs ht hvm hw hB hz1 hk1 hS => ?_)
  obtain ⟨hP1, hK1, hD1⟩ := hB
  rw [ht] at hP1
  have hK1 := va_K.moved hvm.symm hK1
  obtain ⟨hP, hD⟩ := va_join (wr := []) (w1 := [(h0, .inr (8, [.ref x_tape, .ref x_reader, .ref x_current, .ref x_images, .ref x_kept, .ref x_slots, .ref x_diary, .ref x_base, .ref x_trial, .ref x_plan, .ref x_orders, .ref x_unanswered, .int 0, .int 0, .int (-1)])), (x_current, .inr (7, [.int 0, .int 0, .int 0, .int 0, .int 0, .int 0, .int 0, .int 0, .ref t0, .ref t1, .ref t2, .ref t3, .ref t4, .ref t5, .ref t6, .ref t7, .ref t8, .ref t9]))]) hP hD [0, 1] [] rfl rfl (by decide) (by decide) hk1 hFc hP1 hD1
  clear hPc hDc hKc hFc
  generalize H1 = H at hP hS ⊢
  have hP : va_P (dC, dI) vwCl [(h0, .inr (8, [.ref x_tape, .ref x_reader, .ref x_current, .ref x_images, .ref x_kept, .ref x_slots, .ref x_diary, .ref x_base, .ref x_trial, .ref x_plan, .ref x_orders, .ref x_unanswered, .int 0, .int 0, .int (-1)])), (x_current, .inr (7, [.int 0, .int 0, .int 0, .int 0, .int 0, .int 0, .int 0, .int 0, .ref t0, .ref t1, .ref t2, .ref t3, .ref t4, .ref t5, .ref t6, .ref t7, .ref t8, .ref t9]))] H := hP
  have hD : va_D A [(h0, .inr (8, [.ref x_tape, .ref x_reader, .ref x_current, .ref x_images, .ref x_kept, .ref x_slots, .ref x_diary, .ref x_base, .ref x_trial, .ref x_plan, .ref x_orders, .ref x_unanswered, .int 0, .int 0, .int (-1)])), (x_current, .inr (7, [.int 0, .int 0, .int 0, .int 0, .int 0, .int 0, .int 0, .int 0, .ref t0, .ref t1, .ref t2, .ref t3, .ref t4, .ref t5, .ref t6, .ref t7, .ref t8, .ref t9]))] := hD
  have hw : r_1 = 1 := hw
  subst hw
  refine lv_if_ne (tgt := 15) hx hb dX8_judge_4 (by decide) (fun c_2 => ?_) (fun c_2 => absurd c_2 (by decide))
  refine lv_bipush (v := (-2)) hx hb dX8_judge_15 (by decide) ?_
  exact W.iret (v := (-2)) hx hb hr (fun t ht hW => ⟨⟨(-2), (), rfl, rfl, trivial⟩, hS.F ht⟩) hS.2.2 dX8_judge_17
set_option maxHeartbeats 4000000 in
set_option maxRecDepth 100000 in
theorem x_letter (l : Launch) (dC : Nat → ClassId) (dI : Nat → Nat → Nat) (sz : Nat) (h0 : Nat) (x_tape : Nat) (x_reader : Nat) (x_current : Nat) (x_images : Nat) (x_kept : Nat) (x_slots : Nat) (x_diary : Nat) (x_base : Nat) (x_trial : Nat) (x_plan : Nat) (x_orders : Nat) (x_unanswered : Nat) (t0 : Nat) (t1 : Nat) (t2 : Nat) (t3 : Nat) (t4 : Nat) (t5 : Nat) (t6 : Nat) (t7 : Nat) (t8 : Nat) (t9 : Nat) (tk6 : ClassId) (tf6 : Nat → Int32) (a : Int32) (b : Int32) (ht6 : ∀ j : Nat, j < 49 → tf6 j = 0) : Met l yX8_letter (.code yX8_letter cX8_letter 3 (some .int) :: ALLW) ({ frames := 2, cells := 0, slots := 0, locals := 42 }) (va_Pc [.ref h0, .int a, .int b] (fun U => U.heap.size = sz ∧ va_P (dC, dI) vwCl [(h0, .inr (8, [.ref x_tape, .ref x_reader, .ref x_current, .ref x_images, .ref x_kept, .ref x_slots, .ref x_diary, .ref x_base, .ref x_trial, .ref x_plan, .ref x_orders, .ref x_unanswered, .int 0, .int 0, .int (-1)])), (x_current, .inr (7, [.int 0, .int 0, .int 0, .int 0, .int 0, .int 0, .int 0, .int 0, .ref t0, .ref t1, .ref t2, .ref t3, .ref t4, .ref t5, .ref t6, .ref t7, .ref t8, .ref t9])), (t6, .inl (tk6, 49, .inl tf6))] U.heap ∧ va_K (dC, dI) vwCl [(tk6, .int)] U ∧ va_D (fun _ => True) [(h0, .inr (8, [.ref x_tape, .ref x_reader, .ref x_current, .ref x_images, .ref x_kept, .ref x_slots, .ref x_diary, .ref x_base, .ref x_trial, .ref x_plan, .ref x_orders, .ref x_unanswered, .int 0, .int 0, .int (-1)])), (x_current, .inr (7, [.int 0, .int 0, .int 0, .int 0, .int 0, .int 0, .int 0, .int 0, .ref t0, .ref t1, .ref t2, .ref t3, .ref t4, .ref t5, .ref t6, .ref t7, .ref t8, .ref t9])), (t6, .inl (tk6, 49, .inl tf6))])) (va_Qi (fun (r : Int32) (_ : Unit) => r = (-2)) (fun (_ : Unit) (_ : State) => True) (va_A [(h0, .inr (8, [.ref x_tape, .ref x_reader, .ref x_current, .ref x_images, .ref x_kept, .ref x_slots, .ref x_diary, .ref x_base, .ref x_trial, .ref x_plan, .ref x_orders, .ref x_unanswered, .int 0, .int 0, .int (-1)])), (x_current, .inr (7, [.int 0, .int 0, .int 0, .int 0, .int 0, .int 0, .int 0, .int 0, .ref t0, .ref t1, .ref t2, .ref t3, .ref t4, .ref t5, .ref t6, .ref t7, .ref t8, .ref t9])), (t6, .inl (tk6, 49, .inl tf6))] sz)) 0 0 (va_A [(h0, .inr (8, [.ref x_tape, .ref x_reader, .ref x_current, .ref x_images, .ref x_kept, .ref x_slots, .ref x_diary, .ref x_base, .ref x_trial, .ref x_plan, .ref x_orders, .ref x_unanswered, .int 0, .int 0, .int (-1)])), (x_current, .inr (7, [.int 0, .int 0, .int 0, .int 0, .int 0, .int 0, .int 0, .int 0, .ref t0, .ref t1, .ref t2, .ref t3, .ref t4, .ref t5, .ref t6, .ref t7, .ref t8, .ref t9])), (t6, .inl (tk6, 49, .inl tf6))] sz) := by
  refine Met.ofW (cc := cX8_letter) (maxL := 3) (ret := (some .int)) (by decide) rfl ?_
  intro p e s m args below meth c s₁ B hml hv
  obtain ⟨rfl, hsz, hP, hK, hD0⟩ := hv
  have hx := B.exec
  have hb := B.bytes
  have hr := B.returns
  have hts0 := atoms_spec (ws := (.code yX8_letter cX8_letter 3 (some .int) :: ALLW)) B.pre
  have hts := fun (w : Cond) (h : w ∈ ALLW) => hts0 w (List.mem_cons_of_mem _ h)
  have hown : s.vm.findClass RX8 = some m.cls := findClass_of_methodNamed B.named
  have hlocks := B.notSynchronized
  subst hsz
  have hD := hD0.self (sz := s.heap.size)
  generalize hAe : va_A [(h0, .inr (8, [.ref x_tape, .ref x_reader, .ref x_current, .ref x_images, .ref x_kept, .ref x_slots, .ref x_diary, .ref x_base, .ref x_trial, .ref x_plan, .ref x_orders, .ref x_unanswered, .int 0, .int 0, .int (-1)])), (x_current, .inr (7, [.int 0, .int 0, .int 0, .int 0, .int 0, .int 0, .int 0, .int 0, .ref t0, .ref t1, .ref t2, .ref t3, .ref t4, .ref t5, .ref t6, .ref t7, .ref t8, .ref t9])), (t6, .inl (tk6, 49, .inl tf6))] s.heap.size = A at hD ⊢
  have hA : ∀ q : Nat, s.heap.size ≤ q → A q := fun q h => by rw [← hAe]; exact Or.inr h
  have hS : va_S A s.heap s.heap [] := va_S.rf
  have hP : va_P (dC, dI) vwCl [(h0, .inr (8, [.ref x_tape, .ref x_reader, .ref x_current, .ref x_images, .ref x_kept, .ref x_slots, .ref x_diary, .ref x_base, .ref x_trial, .ref x_plan, .ref x_orders, .ref x_unanswered, .int 0, .int 0, .int (-1)])), (x_current, .inr (7, [.int 0, .int 0, .int 0, .int 0, .int 0, .int 0, .int 0, .int 0, .ref t0, .ref t1, .ref t2, .ref t3, .ref t4, .ref t5, .ref t6, .ref t7, .ref t8, .ref t9])), (t6, .inl (tk6, 49, .inl tf6))] s.heap := hP
  have hl := lv_entry ([.ref h0, .int a, .int b]) (n := 3) (Nat.le_of_ble_eq_true rfl)
  rw [lg_entry_eq]
  generalize (lg_sl ([.ref h0, .int a, .int b]) ++ List.replicate (3 - (lg_sl ([.ref h0, .int a, .int b])).length) Slot.unset).toArray = ls at hl ⊢
  have hl : lv_has ls 3 [(0, .ref h0), (1, .int a), (2, .int b)] := hl
  refine lv_aload_n hx hb dX8_letter_0 rfl (lv_at hl 0 rfl) ?_
  refine va_get (D := (dC, dI)) (ci := 8) (v := .ref x_current) (C := RX8) (T := TX8) (N := 15) hx hb hts inA8 hown hK hP 0 rfl rfl 2 (by decide) (hts _ w_24) (fun _ h9 => h9) rfl dX8_letter_1 ?_
  refine lv_iload_n hx hb dX8_letter_4 rfl (lv_at hl 1 rfl) ?_
  have hPc := hP.sub (ws' := [(x_current, .inr (7, [.int 0, .int 0, .int 0, .int 0, .int 0, .int 0, .int 0, .int 0, .ref t0, .ref t1, .ref t2, .ref t3, .ref t4, .ref t5, .ref t6, .ref t7, .ref t8, .ref t9])), (t6, .inl (tk6, 49, .inl tf6))]) [1, 2] rfl
  have hDc := hD.sub (ws' := [(x_current, .inr (7, [.int 0, .int 0, .int 0, .int 0, .int 0, .int 0, .int 0, .int 0, .ref t0, .ref t1, .ref t2, .ref t3, .ref t4, .ref t5, .ref t6, .ref t7, .ref t8, .ref t9])), (t6, .inl (tk6, 49, .inl tf6))]) [1, 2] (by decide) rfl
  have hKc := hK.sub (tys' := [(tk6, .int)]) [0] rfl
  have hFc := va_free (wc := [(x_current, .inr (7, [.int 0, .int 0, .int 0, .int 0, .int 0, .int 0, .int 0, .int 0, .ref t0, .ref t1, .ref t2, .ref t3, .ref t4, .ref t5, .ref t6, .ref t7, .ref t8, .ref t9])), (t6, .inl (tk6, 49, .inl tf6))]) hD hS hA [1, 2] rfl
  refine va_calli (va_runV (As := [.int a]) (rest := []) ⟨hx, hb, hml, hown, hts⟩ (c_isLetter l dC dI s.heap.size x_current t0 t1 t2 t3 t4 t5 t6 t7 t8 t9 tk6 tf6 a ht6) (cwV 1 hts (goodV w_563 w_564 w_565 w_23 w_566) rfl rfl rfl hdV_X7_isLetter ⟨Nat.le_of_ble_eq_true rfl, Nat.le_of_ble_eq_true rfl⟩) ⟨fun a U g mk q => by obtain ⟨q0, q1, qP, qK, qD⟩ := q; exact ⟨q0, q1, qP, va_K.moved (u := U) (U := U.calling g mk a) (Vm.Alike.refl U.vm) qK, qD⟩, va_recv hKc hPc (ci := 7) (q0 := 0) rfl rfl, fun U hU hW => ⟨rfl, by rw [hU], by rw [hU]; exact hPc, va_K.moved hW.alike hKc, hDc.weaken (fun _ _ _ _ => trivial)⟩⟩ rfl rfl hl.1 rfl (lv_room (Nat.le_of_ble_eq_true rfl)) dX8_letter_5 ⟨Nat.le_of_ble_eq_true rfl, Nat.le_of_ble_eq_true rfl⟩) hS (fun q _ h => hFc q h) hFc (fun r_1 u t H1 locs ht hvm hw hB hz1 hk1 hS => ?_)
  obtain ⟨hP1, hK1, hD1⟩ := hB
  rw [ht] at hP1
  have hK1 := va_K.moved hvm.symm hK1
  obtain ⟨hP, hD⟩ := va_join (wr := [(h0, .inr (8, [.ref x_tape, .ref x_reader, .ref x_current, .ref x_images, .ref x_kept, .ref x_slots, .ref x_diary, .ref x_base, .ref x_trial, .ref x_plan, .ref x_orders, .ref x_unanswered, .int 0, .int 0, .int (-1)]))]) (w1 := [(x_current, .inr (7, [.int 0, .int 0, .int 0, .int 0, .int 0, .int 0, .int 0, .int 0, .ref t0, .ref t1, .ref t2, .ref t3, .ref t4, .ref t5, .ref t6, .ref t7, .ref t8, .ref t9])), (t6, .inl (tk6, 49, .inl tf6))]) hP hD [1, 2] [0] rfl rfl (by decide) (by decide) hk1 hFc hP1 hD1
  clear hPc hDc hKc hFc
  generalize H1 = H at hP hS ⊢
  have hP : va_P (dC, dI) vwCl [(h0, .inr (8, [.ref x_tape, .ref x_reader, .ref x_current, .ref x_images, .ref x_kept, .ref x_slots, .ref x_diary, .ref x_base, .ref x_trial, .ref x_plan, .ref x_orders, .ref x_unanswered, .int 0, .int 0, .int (-1)])), (x_current, .inr (7, [.int 0, .int 0, .int 0, .int 0, .int 0, .int 0, .int 0, .int 0, .ref t0, .ref t1, .ref t2, .ref t3, .ref t4, .ref t5, .ref t6, .ref t7, .ref t8, .ref t9])), (t6, .inl (tk6, 49, .inl tf6))] H := hP
  have hD : va_D A [(h0, .inr (8, [.ref x_tape, .ref x_reader, .ref x_current, .ref x_images, .ref x_kept, .ref x_slots, .ref x_diary, .ref x_base, .ref x_trial, .ref x_plan, .ref x_orders, .ref x_unanswered, .int 0, .int 0, .int (-1)])), (x_current, .inr (7, [.int 0, .int 0, .int 0, .int 0, .int 0, .int 0, .int 0, .int 0, .ref t0, .ref t1, .ref t2, .ref t3, .ref t4, .ref t5, .ref t6, .ref t7, .ref t8, .ref t9])), (t6, .inl (tk6, 49, .inl tf6))] := hD
  have hw : r_1 = 0 := hw
  subst hw
  refine lv_if_ne (tgt := 14) hx hb dX8_letter_8 (by decide) (fun c_2 => absurd (by decide) c_2) (fun c_2 => ?_)
  refine lv_bipush (v := (-2)) hx hb dX8_letter_11 (by decide) ?_
  exact W.iret (v := (-2)) hx hb hr (fun t ht hW => ⟨⟨(-2), (), rfl, rfl, trivial⟩, hS.F ht⟩) hS.2.2 dX8_letter_13
set_option maxHeartbeats 4000000 in
set_option maxRecDepth 100000 in
theorem x_answered (l : Launch) (dC : Nat → ClassId) (dI : Nat → Nat → Nat) (sz : Nat) (h0 : Nat) (x_tape : Nat) (x_reader : Nat) (x_current : Nat) (x_images : Nat) (x_kept : Nat) (x_slots : Nat) (x_diary : Nat) (x_base : Nat) (x_trial : Nat) (x_plan : Nat) (x_orders : Nat) (x_unanswered : Nat) (t0 : Nat) (t1 : Nat) (t2 : Nat) (t3 : Nat) (t4 : Nat) (t5 : Nat) (t6 : Nat) (t7 : Nat) (t8 : Nat) (t9 : Nat) (tk6 : ClassId) (tf6 : Nat → Int32) (a : Int32) (ht6 : ∀ j : Nat, j < 49 → tf6 j = 0) : Met l yX8_answered (.code yX8_answered cX8_answered 2 (some .int) :: ALLW) ({ frames := 2, cells := 0, slots := 0, locals := 42 }) (va_Pc [.ref h0, .int a] (fun U => U.heap.size = sz ∧ va_P (dC, dI) vwCl [(h0, .inr (8, [.ref x_tape, .ref x_reader, .ref x_current, .ref x_images, .ref x_kept, .ref x_slots, .ref x_diary, .ref x_base, .ref x_trial, .ref x_plan, .ref x_orders, .ref x_unanswered, .int 0, .int 0, .int (-1)])), (x_current, .inr (7, [.int 0, .int 0, .int 0, .int 0, .int 0, .int 0, .int 0, .int 0, .ref t0, .ref t1, .ref t2, .ref t3, .ref t4, .ref t5, .ref t6, .ref t7, .ref t8, .ref t9])), (t6, .inl (tk6, 49, .inl tf6))] U.heap ∧ va_K (dC, dI) vwCl [(tk6, .int)] U ∧ va_D (fun _ => True) [(h0, .inr (8, [.ref x_tape, .ref x_reader, .ref x_current, .ref x_images, .ref x_kept, .ref x_slots, .ref x_diary, .ref x_base, .ref x_trial, .ref x_plan, .ref x_orders, .ref x_unanswered, .int 0, .int 0, .int (-1)])), (x_current, .inr (7, [.int 0, .int 0, .int 0, .int 0, .int 0, .int 0, .int 0, .int 0, .ref t0, .ref t1, .ref t2, .ref t3, .ref t4, .ref t5, .ref t6, .ref t7, .ref t8, .ref t9])), (t6, .inl (tk6, 49, .inl tf6))])) (va_Qi (fun (r : Int32) (_ : Unit) => r = (-2)) (fun (_ : Unit) (_ : State) => True) (va_A [(h0, .inr (8, [.ref x_tape, .ref x_reader, .ref x_current, .ref x_images, .ref x_kept, .ref x_slots, .ref x_diary, .ref x_base, .ref x_trial, .ref x_plan, .ref x_orders, .ref x_unanswered, .int 0, .int 0, .int (-1)])), (x_current, .inr (7, [.int 0, .int 0, .int 0, .int 0, .int 0, .int 0, .int 0, .int 0, .ref t0, .ref t1, .ref t2, .ref t3, .ref t4, .ref t5, .ref t6, .ref t7, .ref t8, .ref t9])), (t6, .inl (tk6, 49, .inl tf6))] sz)) 0 0 (va_A [(h0, .inr (8, [.ref x_tape, .ref x_reader, .ref x_current, .ref x_images, .ref x_kept, .ref x_slots, .ref x_diary, .ref x_base, .ref x_trial, .ref x_plan, .ref x_orders, .ref x_unanswered, .int 0, .int 0, .int (-1)])), (x_current, .inr (7, [.int 0, .int 0, .int 0, .int 0, .int 0, .int 0, .int 0, .int 0, .ref t0, .ref t1, .ref t2, .ref t3, .ref t4, .ref t5, .ref t6, .ref t7, .ref t8, .ref t9])), (t6, .inl (tk6, 49, .inl tf6))] sz) := by
  refine Met.ofW (cc := cX8_answered) (maxL := 2) (ret := (some .int)) (by decide) rfl ?_
  intro p e s m args below meth c s₁ B hml hv
  obtain ⟨rfl, hsz, hP, hK, hD0⟩ := hv
  have hx := B.exec
  have hb := B.bytes
  have hr := B.returns
  have hts0 := atoms_spec (ws := (.code yX8_answered cX8_answered 2 (some .int) :: ALLW)) B.pre
  have hts := fun (w : Cond) (h : w ∈ ALLW) => hts0 w (List.mem_cons_of_mem _ h)
  have hown : s.vm.findClass RX8 = some m.cls := findClass_of_methodNamed B.named
  have hlocks := B.notSynchronized
  subst hsz
  have hD := hD0.self (sz := s.heap.size)
  generalize hAe : va_A [(h0, .inr (8, [.ref x_tape, .ref x_reader, .ref x_current, .ref x_images, .ref x_kept, .ref x_slots, .ref x_diary, .ref x_base, .ref x_trial, .ref x_plan, .ref x_orders, .ref x_unanswered, .int 0, .int 0, .int (-1)])), (x_current, .inr (7, [.int 0, .int 0, .int 0, .int 0, .int 0, .int 0, .int 0, .int 0, .ref t0, .ref t1, .ref t2, .ref t3, .ref t4, .ref t5, .ref t6, .ref t7, .ref t8, .ref t9])), (t6, .inl (tk6, 49, .inl tf6))] s.heap.size = A at hD ⊢
  have hA : ∀ q : Nat, s.heap.size ≤ q → A q := fun q h => by rw [← hAe]; exact Or.inr h
  have hS : va_S A s.heap s.heap [] := va_S.rf
  have hP : va_P (dC, dI) vwCl [(h0, .inr (8, [.ref x_tape, .ref x_reader, .ref x_current, .ref x_images, .ref x_kept, .ref x_slots, .ref x_diary, .ref x_base, .ref x_trial, .ref x_plan, .ref x_orders, .ref x_unanswered, .int 0, .int 0, .int (-1)])), (x_current, .inr (7, [.int 0, .int 0, .int 0, .int 0, .int 0, .int 0, .int 0, .int 0, .ref t0, .ref t1, .ref t2, .ref t3, .ref t4, .ref t5, .ref t6, .ref t7, .ref t8, .ref t9])), (t6, .inl (tk6, 49, .inl tf6))] s.heap := hP
  have hl := lv_entry ([.ref h0, .int a]) (n := 2) (Nat.le_of_ble_eq_true rfl)
  rw [lg_entry_eq]
  generalize (lg_sl ([.ref h0, .int a]) ++ List.replicate (2 - (lg_sl ([.ref h0, .int a])).length) Slot.unset).toArray = ls at hl ⊢
  have hl : lv_has ls 2 [(0, .ref h0), (1, .int a)] := hl
  refine lv_aload_n hx hb dX8_answered_0 rfl (lv_at hl 0 rfl) ?_
  refine va_get (D := (dC, dI)) (ci := 8) (v := .ref x_current) (C := RX8) (T := TX8) (N := 15) hx hb hts inA8 hown hK hP 0 rfl rfl 2 (by decide) (hts _ w_24) (fun _ h9 => h9) rfl dX8_answered_1 ?_
  refine lv_iload_n hx hb dX8_answered_4 rfl (lv_at hl 1 rfl) ?_
  have hPc := hP.sub (ws' := [(x_current, .inr (7, [.int 0, .int 0, .int 0, .int 0, .int 0, .int 0, .int 0, .int 0, .ref t0, .ref t1, .ref t2, .ref t3, .ref t4, .ref t5, .ref t6, .ref t7, .ref t8, .ref t9])), (t6, .inl (tk6, 49, .inl tf6))]) [1, 2] rfl
  have hDc := hD.sub (ws' := [(x_current, .inr (7, [.int 0, .int 0, .int 0, .int 0, .int 0, .int 0, .int 0, .int 0, .ref t0, .ref t1, .ref t2, .ref t3, .ref t4, .ref t5, .ref t6, .ref t7, .ref t8, .ref t9])), (t6, .inl (tk6, 49, .inl tf6))]) [1, 2] (by decide) rfl
  have hKc := hK.sub (tys' := [(tk6, .int)]) [0] rfl
  have hFc := va_free (wc := [(x_current, .inr (7, [.int 0, .int 0, .int 0, .int 0, .int 0, .int 0, .int 0, .int 0, .ref t0, .ref t1, .ref t2, .ref t3, .ref t4, .ref t5, .ref t6, .ref t7, .ref t8, .ref t9])), (t6, .inl (tk6, 49, .inl tf6))]) hD hS hA [1, 2] rfl
  refine va_calli (va_runV (As := [.int a]) (rest := []) ⟨hx, hb, hml, hown, hts⟩ (c_isLetter l dC dI s.heap.size x_current t0 t1 t2 t3 t4 t5 t6 t7 t8 t9 tk6 tf6 a ht6) (cwV 1 hts (goodV w_563 w_564 w_565 w_23 w_566) rfl rfl rfl hdV_X7_isLetter ⟨Nat.le_of_ble_eq_true rfl, Nat.le_of_ble_eq_true rfl⟩) ⟨fun a U g mk q => by obtain ⟨q0, q1, qP, qK, qD⟩ := q; exact ⟨q0, q1, qP, va_K.moved (u := U) (U := U.calling g mk a) (Vm.Alike.refl U.vm) qK, qD⟩, va_recv hKc hPc (ci := 7) (q0 := 0) rfl rfl, fun U hU hW => ⟨rfl, by rw [hU], by rw [hU]; exact hPc, va_K.moved hW.alike hKc, hDc.weaken (fun _ _ _ _ => trivial)⟩⟩ rfl rfl hl.1 rfl (lv_room (Nat.le_of_ble_eq_true rfl)) dX8_answered_5 ⟨Nat.le_of_ble_eq_true rfl, Nat.le_of_ble_eq_true rfl⟩) hS (fun q _ h => hFc q h) hFc (fun r_1 u t H1 locs ht hvm hw hB hz1 hk1 hS => ?_)
  obtain ⟨hP1, hK1, hD1⟩ := hB
  rw [ht] at hP1
  have hK1 := va_K.moved hvm.symm hK1
  obtain ⟨hP, hD⟩ := va_join (wr := [(h0, .inr (8, [.ref x_tape, .ref x_reader, .ref x_current, .ref x_images, .ref x_kept, .ref x_slots, .ref x_diary, .ref x_base, .ref x_trial, .ref x_plan, .ref x_orders, .ref x_unanswered, .int 0, .int 0, .int (-1)]))]) (w1 := [(x_current, .inr (7, [.int 0, .int 0, .int 0, .int 0, .int 0, .int 0, .int 0, .int 0, .ref t0, .ref t1, .ref t2, .ref t3, .ref t4, .ref t5, .ref t6, .ref t7, .ref t8, .ref t9])), (t6, .inl (tk6, 49, .inl tf6))]) hP hD [1, 2] [0] rfl rfl (by decide) (by decide) hk1 hFc hP1 hD1
  clear hPc hDc hKc hFc
  generalize H1 = H at hP hS ⊢
  have hP : va_P (dC, dI) vwCl [(h0, .inr (8, [.ref x_tape, .ref x_reader, .ref x_current, .ref x_images, .ref x_kept, .ref x_slots, .ref x_diary, .ref x_base, .ref x_trial, .ref x_plan, .ref x_orders, .ref x_unanswered, .int 0, .int 0, .int (-1)])), (x_current, .inr (7, [.int 0, .int 0, .int 0, .int 0, .int 0, .int 0, .int 0, .int 0, .ref t0, .ref t1, .ref t2, .ref t3, .ref t4, .ref t5, .ref t6, .ref t7, .ref t8, .ref t9])), (t6, .inl (tk6, 49, .inl tf6))] H := hP
  have hD : va_D A [(h0, .inr (8, [.ref x_tape, .ref x_reader, .ref x_current, .ref x_images, .ref x_kept, .ref x_slots, .ref x_diary, .ref x_base, .ref x_trial, .ref x_plan, .ref x_orders, .ref x_unanswered, .int 0, .int 0, .int (-1)])), (x_current, .inr (7, [.int 0, .int 0, .int 0, .int 0, .int 0, .int 0, .int 0, .int 0, .ref t0, .ref t1, .ref t2, .ref t3, .ref t4, .ref t5, .ref t6, .ref t7, .ref t8, .ref t9])), (t6, .inl (tk6, 49, .inl tf6))] := hD
  have hw : r_1 = 0 := hw
  subst hw
  refine lv_if_eq (tgt := 23) hx hb dX8_answered_8 (by decide) (fun c_2 => ?_) (fun c_2 => absurd (by decide) c_2)
  refine lv_bipush (v := (-2)) hx hb dX8_answered_23 (by decide) ?_
  exact W.iret (v := (-2)) hx hb hr (fun t ht hW => ⟨⟨(-2), (), rfl, rfl, trivial⟩, hS.F ht⟩) hS.2.2 dX8_answered_25
set_option maxHeartbeats 4000000 in
set_option maxRecDepth 100000 in
theorem x_comes (l : Launch) (dC : Nat → ClassId) (dI : Nat → Nat → Nat) (sz : Nat) (h0 : Nat) (x_tape : Nat) (x_reader : Nat) (x_current : Nat) (x_images : Nat) (x_kept : Nat) (x_slots : Nat) (x_diary : Nat) (x_base : Nat) (x_trial : Nat) (x_plan : Nat) (x_orders : Nat) (x_unanswered : Nat) (t0 : Nat) (t1 : Nat) (t2 : Nat) (t3 : Nat) (t4 : Nat) (t5 : Nat) (t6 : Nat) (t7 : Nat) (t8 : Nat) (t9 : Nat) (tk6 : ClassId) (tf6 : Nat → Int32) (a : Int32) (ht6 : ∀ j : Nat, j < 49 → tf6 j = 0) : Met l yX8_comes (.code yX8_comes cX8_comes 3 (some .int) :: ALLW) ({ frames := 2, cells := 0, slots := 0, locals := 42 }) (va_Pc [.ref h0, .int a] (fun U => U.heap.size = sz ∧ va_P (dC, dI) vwCl [(h0, .inr (8, [.ref x_tape, .ref x_reader, .ref x_current, .ref x_images, .ref x_kept, .ref x_slots, .ref x_diary, .ref x_base, .ref x_trial, .ref x_plan, .ref x_orders, .ref x_unanswered, .int 0, .int 0, .int (-1)])), (x_current, .inr (7, [.int 0, .int 0, .int 0, .int 0, .int 0, .int 0, .int 0, .int 0, .ref t0, .ref t1, .ref t2, .ref t3, .ref t4, .ref t5, .ref t6, .ref t7, .ref t8, .ref t9])), (t6, .inl (tk6, 49, .inl tf6))] U.heap ∧ va_K (dC, dI) vwCl [(tk6, .int)] U ∧ va_D (fun _ => True) [(h0, .inr (8, [.ref x_tape, .ref x_reader, .ref x_current, .ref x_images, .ref x_kept, .ref x_slots, .ref x_diary, .ref x_base, .ref x_trial, .ref x_plan, .ref x_orders, .ref x_unanswered, .int 0, .int 0, .int (-1)])), (x_current, .inr (7, [.int 0, .int 0, .int 0, .int 0, .int 0, .int 0, .int 0, .int 0, .ref t0, .ref t1, .ref t2, .ref t3, .ref t4, .ref t5, .ref t6, .ref t7, .ref t8, .ref t9])), (t6, .inl (tk6, 49, .inl tf6))])) (va_Qi (fun (r : Int32) (_ : Unit) => r = (-2)) (fun (_ : Unit) (_ : State) => True) (va_A [(h0, .inr (8, [.ref x_tape, .ref x_reader, .ref x_current, .ref x_images, .ref x_kept, .ref x_slots, .ref x_diary, .ref x_base, .ref x_trial, .ref x_plan, .ref x_orders, .ref x_unanswered, .int 0, .int 0, .int (-1)])), (x_current, .inr (7, [.int 0, .int 0, .int 0, .int 0, .int 0, .int 0, .int 0, .int 0, .ref t0, .ref t1, .ref t2, .ref t3, .ref t4, .ref t5, .ref t6, .ref t7, .ref t8, .ref t9])), (t6, .inl (tk6, 49, .inl tf6))] sz)) 0 0 (va_A [(h0, .inr (8, [.ref x_tape, .ref x_reader, .ref x_current, .ref x_images, .ref x_kept, .ref x_slots, .ref x_diary, .ref x_base, .ref x_trial, .ref x_plan, .ref x_orders, .ref x_unanswered, .int 0, .int 0, .int (-1)])), (x_current, .inr (7, [.int 0, .int 0, .int 0, .int 0, .int 0, .int 0, .int 0, .int 0, .ref t0, .ref t1, .ref t2, .ref t3, .ref t4, .ref t5, .ref t6, .ref t7, .ref t8, .ref t9])), (t6, .inl (tk6, 49, .inl tf6))] sz) := by
  refine Met.ofW (cc := cX8_comes) (maxL := 3) (ret := (some .int)) (by decide) rfl ?_
  intro p e s m args below meth c s₁ B hml hv
  obtain ⟨rfl, hsz, hP, hK, hD0⟩ := hv
  have hx := B.exec
  have hb := B.bytes
  have hr := B.returns
  have hts0 := atoms_spec (ws := (.code yX8_comes cX8_comes 3 (some .int) :: ALLW)) B.pre
  have hts := fun (w : Cond) (h : w ∈ ALLW) => hts0 w (List.mem_cons_of_mem _ h)
  have hown : s.vm.findClass RX8 = some m.cls := findClass_of_methodNamed B.named
  have hlocks := B.notSynchronized
  subst hsz
  have hD := hD0.self (sz := s.heap.size)
  generalize hAe : va_A [(h0, .inr (8, [.ref x_tape, .ref x_reader, .ref x_current, .ref x_images, .ref x_kept, .ref x_slots, .ref x_diary, .ref x_base, .ref x_trial, .ref x_plan, .ref x_orders, .ref x_unanswered, .int 0, .int 0, .int (-1)])), (x_current, .inr (7, [.int 0, .int 0, .int 0, .int 0, .int 0, .int 0, .int 0, .int 0, .ref t0, .ref t1, .ref t2, .ref t3, .ref t4, .ref t5, .ref t6, .ref t7, .ref t8, .ref t9])), (t6, .inl (tk6, 49, .inl tf6))] s.heap.size = A at hD ⊢
  have hA : ∀ q : Nat, s.heap.size ≤ q → A q := fun q h => by rw [← hAe]; exact Or.inr h
  have hS : va_S A s.heap s.heap [] := va_S.rf
  have hP : va_P (dC, dI) vwCl [(h0, .inr (8, [.ref x_tape, .ref x_reader, .ref x_current, .ref x_images, .ref x_kept, .ref x_slots, .ref x_diary, .ref x_base, .ref x_trial, .ref x_plan, .ref x_orders, .ref x_unanswered, .int 0, .int 0, .int (-1)])), (x_current, .inr (7, [.int 0, .int 0, .int 0, .int 0, .int 0, .int 0, .int 0, .int 0, .ref t0, .ref t1, .ref t2, .ref t3, .ref t4, .ref t5, .ref t6, .ref t7, .ref t8, .ref t9])), (t6, .inl (tk6, 49, .inl tf6))] s.heap := hP
  have hl := lv_entry ([.ref h0, .int a]) (n := 3) (Nat.le_of_ble_eq_true rfl)
  rw [lg_entry_eq]
  generalize (lg_sl ([.ref h0, .int a]) ++ List.replicate (3 - (lg_sl ([.ref h0, .int a])).length) Slot.unset).toArray = ls at hl ⊢
  have hl : lv_has ls 3 [(0, .ref h0), (1, .int a)] := hl
  refine lv_aload_n hx hb dX8_comes_0 rfl (lv_at hl 0 rfl) ?_
  refine va_get (D := (dC, dI)) (ci := 8) (v := .ref x_current) (C := RX8) (T := TX8) (N := 15) hx hb hts inA8 hown hK hP 0 rfl rfl 2 (by decide) (hts _ w_24) (fun _ h9 => h9) rfl dX8_comes_1 ?_
  refine lv_iload_n hx hb dX8_comes_4 rfl (lv_at hl 1 rfl) ?_
  have hPc := hP.sub (ws' := [(x_current, .inr (7, [.int 0, .int 0, .int 0, .int 0, .int 0, .int 0, .int 0, .int 0, .ref t0, .ref t1, .ref t2, .ref t3, .ref t4, .ref t5, .ref t6, .ref t7, .ref t8, .ref t9])), (t6, .inl (tk6, 49, .inl tf6))]) [1, 2] rfl
  have hDc := hD.sub (ws' := [(x_current, .inr (7, [.int 0, .int 0, .int 0, .int 0, .int 0, .int 0, .int 0, .int 0, .ref t0, .ref t1, .ref t2, .ref t3, .ref t4, .ref t5, .ref t6, .ref t7, .ref t8, .ref t9])), (t6, .inl (tk6, 49, .inl tf6))]) [1, 2] (by decide) rfl
  have hKc := hK.sub (tys' := [(tk6, .int)]) [0] rfl
  have hFc := va_free (wc := [(x_current, .inr (7, [.int 0, .int 0, .int 0, .int 0, .int 0, .int 0, .int 0, .int 0, .ref t0, .ref t1, .ref t2, .ref t3, .ref t4, .ref t5, .ref t6, .ref t7, .ref t8, .ref t9])), (t6, .inl (tk6, 49, .inl tf6))]) hD hS hA [1, 2] rfl
  refine va_calli (va_runV (As := [.int a]) (rest := []) ⟨hx, hb, hml, hown, hts⟩ (c_isLetter l dC dI s.heap.size x_current t0 t1 t2 t3 t4 t5 t6 t7 t8 t9 tk6 tf6 a ht6) (cwV 1 hts (goodV w_563 w_564 w_565 w_23 w_566) rfl rfl rfl hdV_X7_isLetter ⟨Nat.le_of_ble_eq_true rfl, Nat.le_of_ble_eq_true rfl⟩) ⟨fun a U g mk q => by obtain ⟨q0, q1, qP, qK, qD⟩ := q; exact ⟨q0, q1, qP, va_K.moved (u := U) (U := U.calling g mk a) (Vm.Alike.refl U.vm) qK, qD⟩, va_recv hKc hPc (ci := 7) (q0 := 0) rfl rfl, fun U hU hW => ⟨rfl, by rw [hU], by rw [hU]; exact hPc, va_K.moved hW.alike hKc, hDc.weaken (fun _ _ _ _ => trivial)⟩⟩ rfl rfl hl.1 rfl (lv_room (Nat.le_of_ble_eq_true rfl)) dX8_comes_5 ⟨Nat.le_of_ble_eq_true rfl, Nat.le_of_ble_eq_true rfl⟩) hS (fun q _ h => hFc q h) hFc (fun r_1 u t H1 locs ht hvm hw hB hz1 hk1 hS => ?_)
  obtain ⟨hP1, hK1, hD1⟩ := hB
  rw [ht] at hP1
  have hK1 := va_K.moved hvm.symm hK1
  obtain ⟨hP, hD⟩ := va_join (wr := [(h0, .inr (8, [.ref x_tape, .ref x_reader, .ref x_current, .ref x_images, .ref x_kept, .ref x_slots, .ref x_diary, .ref x_base, .ref x_trial, .ref x_plan, .ref x_orders, .ref x_unanswered, .int 0, .int 0, .int (-1)]))]) (w1 := [(x_current, .inr (7, [.int 0, .int 0, .int 0, .int 0, .int 0, .int 0, .int 0, .int 0, .ref t0, .ref t1, .ref t2, .ref t3, .ref t4, .ref t5, .ref t6, .ref t7, .ref t8, .ref t9])), (t6, .inl (tk6, 49, .inl tf6))]) hP hD [1, 2] [0] rfl rfl (by decide) (by decide) hk1 hFc hP1 hD1
  clear hPc hDc hKc hFc
  generalize H1 = H at hP hS ⊢
  have hP : va_P (dC, dI) vwCl [(h0, .inr (8, [.ref x_tape, .ref x_reader, .ref x_current, .ref x_images, .ref x_kept, .ref x_slots, .ref x_diary, .ref x_base, .ref x_trial, .ref x_plan, .ref x_orders, .ref x_unanswered, .int 0, .int 0, .int (-1)])), (x_current, .inr (7, [.int 0, .int 0, .int 0, .int 0, .int 0, .int 0, .int 0, .int 0, .ref t0, .ref t1, .ref t2, .ref t3, .ref t4, .ref t5, .ref t6, .ref t7, .ref t8, .ref t9])), (t6, .inl (tk6, 49, .inl tf6))] H := hP
  have hD : va_D A [(h0, .inr (8, [.ref x_tape, .ref x_reader, .ref x_current, .ref x_images, .ref x_kept, .ref x_slots, .ref x_diary, .ref x_base, .ref x_trial, .ref x_plan, .ref x_orders, .ref x_unanswered, .int 0, .int 0, .int (-1)])), (x_current, .inr (7, [.int 0, .int 0, .int 0, .int 0, .int 0, .int 0, .int 0, .int 0, .ref t0, .ref t1, .ref t2, .ref t3, .ref t4, .ref t5, .ref t6, .ref t7, .ref t8, .ref t9])), (t6, .inl (tk6, 49, .inl tf6))] := hD
  have hw : r_1 = 0 := hw
  subst hw
  refine lv_if_ne (tgt := 14) hx hb dX8_comes_8 (by decide) (fun c_2 => absurd (by decide) c_2) (fun c_2 => ?_)
  refine lv_bipush (v := (-2)) hx hb dX8_comes_11 (by decide) ?_
  exact W.iret (v := (-2)) hx hb hr (fun t ht hW => ⟨⟨(-2), (), rfl, rfl, trivial⟩, hS.F ht⟩) hS.2.2 dX8_comes_13
set_option maxHeartbeats 4000000 in
set_option maxRecDepth 100000 in
theorem x_needs (l : Launch) (dC : Nat → ClassId) (dI : Nat → Nat → Nat) (sz : Nat) (h0 : Nat) (x_tape : Nat) (x_reader : Nat) (x_current : Nat) (x_images : Nat) (x_kept : Nat) (x_slots : Nat) (x_diary : Nat) (x_base : Nat) (x_trial : Nat) (x_plan : Nat) (x_orders : Nat) (x_unanswered : Nat) (t0 : Nat) (t1 : Nat) (t2 : Nat) (t3 : Nat) (t4 : Nat) (t5 : Nat) (t6 : Nat) (t7 : Nat) (t8 : Nat) (t9 : Nat) (tk6 : ClassId) (tf6 : Nat → Int32) (a : Int32) (b : Int32) (ht6 : ∀ j : Nat, j < 49 → tf6 j = 0) : Met l yX8_needs (.code yX8_needs cX8_needs 3 (some .int) :: ALLW) ({ frames := 2, cells := 0, slots := 0, locals := 42 }) (va_Pc [.ref h0, .int a, .int b] (fun U => U.heap.size = sz ∧ va_P (dC, dI) vwCl [(h0, .inr (8, [.ref x_tape, .ref x_reader, .ref x_current, .ref x_images, .ref x_kept, .ref x_slots, .ref x_diary, .ref x_base, .ref x_trial, .ref x_plan, .ref x_orders, .ref x_unanswered, .int 0, .int 0, .int (-1)])), (x_current, .inr (7, [.int 0, .int 0, .int 0, .int 0, .int 0, .int 0, .int 0, .int 0, .ref t0, .ref t1, .ref t2, .ref t3, .ref t4, .ref t5, .ref t6, .ref t7, .ref t8, .ref t9])), (t6, .inl (tk6, 49, .inl tf6))] U.heap ∧ va_K (dC, dI) vwCl [(tk6, .int)] U ∧ va_D (fun _ => True) [(h0, .inr (8, [.ref x_tape, .ref x_reader, .ref x_current, .ref x_images, .ref x_kept, .ref x_slots, .ref x_diary, .ref x_base, .ref x_trial, .ref x_plan, .ref x_orders, .ref x_unanswered, .int 0, .int 0, .int (-1)])), (x_current, .inr (7, [.int 0, .int 0, .int 0, .int 0, .int 0, .int 0, .int 0, .int 0, .ref t0, .ref t1, .ref t2, .ref t3, .ref t4, .ref t5, .ref t6, .ref t7, .ref t8, .ref t9])), (t6, .inl (tk6, 49, .inl tf6))])) (va_Qi (fun (r : Int32) (_ : Unit) => r = (-2)) (fun (_ : Unit) (_ : State) => True) (va_A [(h0, .inr (8, [.ref x_tape, .ref x_reader, .ref x_current, .ref x_images, .ref x_kept, .ref x_slots, .ref x_diary, .ref x_base, .ref x_trial, .ref x_plan, .ref x_orders, .ref x_unanswered, .int 0, .int 0, .int (-1)])), (x_current, .inr (7, [.int 0, .int 0, .int 0, .int 0, .int 0, .int 0, .int 0, .int 0, .ref t0, .ref t1, .ref t2, .ref t3, .ref t4, .ref t5, .ref t6, .ref t7, .ref t8, .ref t9])), (t6, .inl (tk6, 49, .inl tf6))] sz)) 0 0 (va_A [(h0, .inr (8, [.ref x_tape, .ref x_reader, .ref x_current, .ref x_images, .ref x_kept, .ref x_slots, .ref x_diary, .ref x_base, .ref x_trial, .ref x_plan, .ref x_orders, .ref x_unanswered, .int 0, .int 0, .int (-1)])), (x_current, .inr (7, [.int 0, .int 0, .int 0, .int 0, .int 0, .int 0, .int 0, .int 0, .ref t0, .ref t1, .ref t2, .ref t3, .ref t4, .ref t5, .ref t6, .ref t7, .ref t8, .ref t9])), (t6, .inl (tk6, 49, .inl tf6))] sz) := by
  refine Met.ofW (cc := cX8_needs) (maxL := 3) (ret := (some .int)) (by decide) rfl ?_
  intro p e s m args below meth c s₁ B hml hv
  obtain ⟨rfl, hsz, hP, hK, hD0⟩ := hv
  have hx := B.exec
  have hb := B.bytes
  have hr := B.returns
  have hts0 := atoms_spec (ws := (.code yX8_needs cX8_needs 3 (some .int) :: ALLW)) B.pre
  have hts := fun (w : Cond) (h : w ∈ ALLW) => hts0 w (List.mem_cons_of_mem _ h)
  have hown : s.vm.findClass RX8 = some m.cls := findClass_of_methodNamed B.named
  have hlocks := B.notSynchronized
  subst hsz
  have hD := hD0.self (sz := s.heap.size)
  generalize hAe : va_A [(h0, .inr (8, [.ref x_tape, .ref x_reader, .ref x_current, .ref x_images, .ref x_kept, .ref x_slots, .ref x_diary, .ref x_base, .ref x_trial, .ref x_plan, .ref x_orders, .ref x_unanswered, .int 0, .int 0, .int (-1)])), (x_current, .inr (7, [.int 0, .int 0, .int 0, .int 0, .int 0, .int 0, .int 0, .int 0, .ref t0, .ref t1, .ref t2, .ref t3, .ref t4, .ref t5, .ref t6, .ref t7, .ref t8, .ref t9])), (t6, .inl (tk6, 49, .inl tf6))] s.heap.size = A at hD ⊢
  have hA : ∀ q : Nat, s.heap.size ≤ q → A q := fun q h => by rw [← hAe]; exact Or.inr h
  have hS : va_S A s.heap s.heap [] := va_S.rf
  have hP : va_P (dC, dI) vwCl [(h0, .inr (8, [.ref x_tape, .ref x_reader, .ref x_current, .ref x_images, .ref x_kept, .ref x_slots, .ref x_diary, .ref x_base, .ref x_trial, .ref x_plan, .ref x_orders, .ref x_unanswered, .int 0, .int 0, .int (-1)])), (x_current, .inr (7, [.int 0, .int 0, .int 0, .int 0, .int 0, .int 0, .int 0, .int 0, .ref t0, .ref t1, .ref t2, .ref t3, .ref t4, .ref t5, .ref t6, .ref t7, .ref t8, .ref t9])), (t6, .inl (tk6, 49, .inl tf6))] s.heap := hP
  have hl := lv_entry ([.ref h0, .int a, .int b]) (n := 3) (Nat.le_of_ble_eq_true rfl)
  rw [lg_entry_eq]
  generalize (lg_sl ([.ref h0, .int a, .int b]) ++ List.replicate (3 - (lg_sl ([.ref h0, .int a, .int b])).length) Slot.unset).toArray = ls at hl ⊢
  have hl : lv_has ls 3 [(0, .ref h0), (1, .int a), (2, .int b)] := hl
  refine lv_aload_n hx hb dX8_needs_0 rfl (lv_at hl 0 rfl) ?_
  refine va_get (D := (dC, dI)) (ci := 8) (v := .ref x_current) (C := RX8) (T := TX8) (N := 15) hx hb hts inA8 hown hK hP 0 rfl rfl 2 (by decide) (hts _ w_24) (fun _ h9 => h9) rfl dX8_needs_1 ?_
  refine lv_iload_n hx hb dX8_needs_4 rfl (lv_at hl 1 rfl) ?_
  have hPc := hP.sub (ws' := [(x_current, .inr (7, [.int 0, .int 0, .int 0, .int 0, .int 0, .int 0, .int 0, .int 0, .ref t0, .ref t1, .ref t2, .ref t3, .ref t4, .ref t5, .ref t6, .ref t7, .ref t8, .ref t9])), (t6, .inl (tk6, 49, .inl tf6))]) [1, 2] rfl
  have hDc := hD.sub (ws' := [(x_current, .inr (7, [.int 0, .int 0, .int 0, .int 0, .int 0, .int 0, .int 0, .int 0, .ref t0, .ref t1, .ref t2, .ref t3, .ref t4, .ref t5, .ref t6, .ref t7, .ref t8, .ref t9])), (t6, .inl (tk6, 49, .inl tf6))]) [1, 2] (by decide) rfl
  have hKc := hK.sub (tys' := [(tk6, .int)]) [0] rfl
  have hFc := va_free (wc := [(x_current, .inr (7, [.int 0, .int 0, .int 0, .int 0, .int 0, .int 0, .int 0, .int 0, .ref t0, .ref t1, .ref t2, .ref t3, .ref t4, .ref t5, .ref t6, .ref t7, .ref t8, .ref t9])), (t6, .inl (tk6, 49, .inl tf6))]) hD hS hA [1, 2] rfl
  refine va_calli (va_runV (As := [.int a]) (rest := []) ⟨hx, hb, hml, hown, hts⟩ (c_isLetter l dC dI s.heap.size x_current t0 t1 t2 t3 t4 t5 t6 t7 t8 t9 tk6 tf6 a ht6) (cwV 1 hts (goodV w_563 w_564 w_565 w_23 w_566) rfl rfl rfl hdV_X7_isLetter ⟨Nat.le_of_ble_eq_true rfl, Nat.le_of_ble_eq_true rfl⟩) ⟨fun a U g mk q => by obtain ⟨q0, q1, qP, qK, qD⟩ := q; exact ⟨q0, q1, qP, va_K.moved (u := U) (U := U.calling g mk a) (Vm.Alike.refl U.vm) qK, qD⟩, va_recv hKc hPc (ci := 7) (q0 := 0) rfl rfl, fun U hU hW => ⟨rfl, by rw [hU], by rw [hU]; exact hPc, va_K.moved hW.alike hKc, hDc.weaken (fun _ _ _ _ => trivial)⟩⟩ rfl rfl hl.1 rfl (lv_room (Nat.le_of_ble_eq_true rfl)) dX8_needs_5 ⟨Nat.le_of_ble_eq_true rfl, Nat.le_of_ble_eq_true rfl⟩) hS (fun q _ h => hFc q h) hFc (fun r_1 u t H1 locs ht hvm hw hB hz1 hk1 hS => ?_)
  obtain ⟨hP1, hK1, hD1⟩ := hB
  rw [ht] at hP1
  have hK1 := va_K.moved hvm.symm hK1
  obtain ⟨hP, hD⟩ := va_join (wr := [(h0, .inr (8, [.ref x_tape, .ref x_reader, .ref x_current, .ref x_images, .ref x_kept, .ref x_slots, .ref x_diary, .ref x_base, .ref x_trial, .ref x_plan, .ref x_orders, .ref x_unanswered, .int 0, .int 0, .int (-1)]))]) (w1 := [(x_current, .inr (7, [.int 0, .int 0, .int 0, .int 0, .int 0, .int 0, .int 0, .int 0, .ref t0, .ref t1, .ref t2, .ref t3, .ref t4, .ref t5, .ref t6, .ref t7, .ref t8, .ref t9])), (t6, .inl (tk6, 49, .inl tf6))]) hP hD [1, 2] [0] rfl rfl (by decide) (by decide) hk1 hFc hP1 hD1
  clear hPc hDc hKc hFc
  generalize H1 = H at hP hS ⊢
  have hP : va_P (dC, dI) vwCl [(h0, .inr (8, [.ref x_tape, .ref x_reader, .ref x_current, .ref x_images, .ref x_kept, .ref x_slots, .ref x_diary, .ref x_base, .ref x_trial, .ref x_plan, .ref x_orders, .ref x_unanswered, .int 0, .int 0, .int (-1)])), (x_current, .inr (7, [.int 0, .int 0, .int 0, .int 0, .int 0, .int 0, .int 0, .int 0, .ref t0, .ref t1, .ref t2, .ref t3, .ref t4, .ref t5, .ref t6, .ref t7, .ref t8, .ref t9])), (t6, .inl (tk6, 49, .inl tf6))] H := hP
  have hD : va_D A [(h0, .inr (8, [.ref x_tape, .ref x_reader, .ref x_current, .ref x_images, .ref x_kept, .ref x_slots, .ref x_diary, .ref x_base, .ref x_trial, .ref x_plan, .ref x_orders, .ref x_unanswered, .int 0, .int 0, .int (-1)])), (x_current, .inr (7, [.int 0, .int 0, .int 0, .int 0, .int 0, .int 0, .int 0, .int 0, .ref t0, .ref t1, .ref t2, .ref t3, .ref t4, .ref t5, .ref t6, .ref t7, .ref t8, .ref t9])), (t6, .inl (tk6, 49, .inl tf6))] := hD
  have hw : r_1 = 0 := hw
  subst hw
  refine lv_if_eq (tgt := 22) hx hb dX8_needs_8 (by decide) (fun c_2 => ?_) (fun c_2 => absurd (by decide) c_2)
  refine lv_bipush (v := (-2)) hx hb dX8_needs_22 (by decide) ?_
  exact W.iret (v := (-2)) hx hb hr (fun t ht hW => ⟨⟨(-2), (), rfl, rfl, trivial⟩, hS.F ht⟩) hS.2.2 dX8_needs_24
set_option maxHeartbeats 4000000 in
set_option maxRecDepth 100000 in
theorem x_under (l : Launch) (dC : Nat → ClassId) (dI : Nat → Nat → Nat) (sz : Nat) (h0 : Nat) (x_tape : Nat) (x_reader : Nat) (x_current : Nat) (x_images : Nat) (x_kept : Nat) (x_slots : Nat) (x_diary : Nat) (x_base : Nat) (x_trial : Nat) (x_plan : Nat) (x_orders : Nat) (x_unanswered : Nat) (t0 : Nat) (t1 : Nat) (t2 : Nat) (t3 : Nat) (t4 : Nat) (t5 : Nat) (t6 : Nat) (t7 : Nat) (t8 : Nat) (t9 : Nat) (tk6 : ClassId) (tf6 : Nat → Int32) (a : Int32) (b : Int32) (ht6 : ∀ j : Nat, j < 49 → tf6 j = 0) : Met l yX8_under (.code yX8_under cX8_under 8 (some .int) :: ALLW) ({ frames := 2, cells := 0, slots := 0, locals := 42 }) (va_Pc [.ref h0, .int a, .int b] (fun U => U.heap.size = sz ∧ va_P (dC, dI) vwCl [(h0, .inr (8, [.ref x_tape, .ref x_reader, .ref x_current, .ref x_images, .ref x_kept, .ref x_slots, .ref x_diary, .ref x_base, .ref x_trial, .ref x_plan, .ref x_orders, .ref x_unanswered, .int 0, .int 0, .int (-1)])), (x_current, .inr (7, [.int 0, .int 0, .int 0, .int 0, .int 0, .int 0, .int 0, .int 0, .ref t0, .ref t1, .ref t2, .ref t3, .ref t4, .ref t5, .ref t6, .ref t7, .ref t8, .ref t9])), (t6, .inl (tk6, 49, .inl tf6))] U.heap ∧ va_K (dC, dI) vwCl [(tk6, .int)] U ∧ va_D (fun _ => True) [(h0, .inr (8, [.ref x_tape, .ref x_reader, .ref x_current, .ref x_images, .ref x_kept, .ref x_slots, .ref x_diary, .ref x_base, .ref x_trial, .ref x_plan, .ref x_orders, .ref x_unanswered, .int 0, .int 0, .int (-1)])), (x_current, .inr (7, [.int 0, .int 0, .int 0, .int 0, .int 0, .int 0, .int 0, .int 0, .ref t0, .ref t1, .ref t2, .ref t3, .ref t4, .ref t5, .ref t6, .ref t7, .ref t8, .ref t9])), (t6, .inl (tk6, 49, .inl tf6))])) (va_Qi (fun (r : Int32) (_ : Unit) => r = (-2)) (fun (_ : Unit) (_ : State) => True) (va_A [(h0, .inr (8, [.ref x_tape, .ref x_reader, .ref x_current, .ref x_images, .ref x_kept, .ref x_slots, .ref x_diary, .ref x_base, .ref x_trial, .ref x_plan, .ref x_orders, .ref x_unanswered, .int 0, .int 0, .int (-1)])), (x_current, .inr (7, [.int 0, .int 0, .int 0, .int 0, .int 0, .int 0, .int 0, .int 0, .ref t0, .ref t1, .ref t2, .ref t3, .ref t4, .ref t5, .ref t6, .ref t7, .ref t8, .ref t9])), (t6, .inl (tk6, 49, .inl tf6))] sz)) 0 0 (va_A [(h0, .inr (8, [.ref x_tape, .ref x_reader, .ref x_current, .ref x_images, .ref x_kept, .ref x_slots, .ref x_diary, .ref x_base, .ref x_trial, .ref x_plan, .ref x_orders, .ref x_unanswered, .int 0, .int 0, .int (-1)])), (x_current, .inr (7, [.int 0, .int 0, .int 0, .int 0, .int 0, .int 0, .int 0, .int 0, .ref t0, .ref t1, .ref t2, .ref t3, .ref t4, .ref t5, .ref t6, .ref t7, .ref t8, .ref t9])), (t6, .inl (tk6, 49, .inl tf6))] sz) := by
  refine Met.ofW (cc := cX8_under) (maxL := 8) (ret := (some .int)) (by decide) rfl ?_
  intro p e s m args below meth c s₁ B hml hv
  obtain ⟨rfl, hsz, hP, hK, hD0⟩ := hv
  have hx := B.exec
  have hb := B.bytes
  have hr := B.returns
  have hts0 := atoms_spec (ws := (.code yX8_under cX8_under 8 (some .int) :: ALLW)) B.pre
  have hts := fun (w : Cond) (h : w ∈ ALLW) => hts0 w (List.mem_cons_of_mem _ h)
  have hown : s.vm.findClass RX8 = some m.cls := findClass_of_methodNamed B.named
  have hlocks := B.notSynchronized
  subst hsz
  have hD := hD0.self (sz := s.heap.size)
  generalize hAe : va_A [(h0, .inr (8, [.ref x_tape, .ref x_reader, .ref x_current, .ref x_images, .ref x_kept, .ref x_slots, .ref x_diary, .ref x_base, .ref x_trial, .ref x_plan, .ref x_orders, .ref x_unanswered, .int 0, .int 0, .int (-1)])), (x_current, .inr (7, [.int 0, .int 0, .int 0, .int 0, .int 0, .int 0, .int 0, .int 0, .ref t0, .ref t1, .ref t2, .ref t3, .ref t4, .ref t5, .ref t6, .ref t7, .ref t8, .ref t9])), (t6, .inl (tk6, 49, .inl tf6))] s.heap.size = A at hD ⊢
  have hA : ∀ q : Nat, s.heap.size ≤ q → A q := fun q h => by rw [← hAe]; exact Or.inr h
  have hS : va_S A s.heap s.heap [] := va_S.rf
  have hP : va_P (dC, dI) vwCl [(h0, .inr (8, [.ref x_tape, .ref x_reader, .ref x_current, .ref x_images, .ref x_kept, .ref x_slots, .ref x_diary, .ref x_base, .ref x_trial, .ref x_plan, .ref x_orders, .ref x_unanswered, .int 0, .int 0, .int (-1)])), (x_current, .inr (7, [.int 0, .int 0, .int 0, .int 0, .int 0, .int 0, .int 0, .int 0, .ref t0, .ref t1, .ref t2, .ref t3, .ref t4, .ref t5, .ref t6, .ref t7, .ref t8, .ref t9])), (t6, .inl (tk6, 49, .inl tf6))] s.heap := hP
  have hl := lv_entry ([.ref h0, .int a, .int b]) (n := 8) (Nat.le_of_ble_eq_true rfl)
  rw [lg_entry_eq]
  generalize (lg_sl ([.ref h0, .int a, .int b]) ++ List.replicate (8 - (lg_sl ([.ref h0, .int a, .int b])).length) Slot.unset).toArray = ls at hl ⊢
  have hl : lv_has ls 8 [(0, .ref h0), (1, .int a), (2, .int b)] := hl
  refine lv_aload_n hx hb dX8_under_0 rfl (lv_at hl 0 rfl) ?_
  refine va_get (D := (dC, dI)) (ci := 8) (v := .ref x_current) (C := RX8) (T := TX8) (N := 15) hx hb hts inA8 hown hK hP 0 rfl rfl 2 (by decide) (hts _ w_24) (fun _ h9 => h9) rfl dX8_under_1 ?_
  refine lv_iload_n hx hb dX8_under_4 rfl (lv_at hl 1 rfl) ?_
  have hPc := hP.sub (ws' := [(x_current, .inr (7, [.int 0, .int 0, .int 0, .int 0, .int 0, .int 0, .int 0, .int 0, .ref t0, .ref t1, .ref t2, .ref t3, .ref t4, .ref t5, .ref t6, .ref t7, .ref t8, .ref t9])), (t6, .inl (tk6, 49, .inl tf6))]) [1, 2] rfl
  have hDc := hD.sub (ws' := [(x_current, .inr (7, [.int 0, .int 0, .int 0, .int 0, .int 0, .int 0, .int 0, .int 0, .ref t0, .ref t1, .ref t2, .ref t3, .ref t4, .ref t5, .ref t6, .ref t7, .ref t8, .ref t9])), (t6, .inl (tk6, 49, .inl tf6))]) [1, 2] (by decide) rfl
  have hKc := hK.sub (tys' := [(tk6, .int)]) [0] rfl
  have hFc := va_free (wc := [(x_current, .inr (7, [.int 0, .int 0, .int 0, .int 0, .int 0, .int 0, .int 0, .int 0, .ref t0, .ref t1, .ref t2, .ref t3, .ref t4, .ref t5, .ref t6, .ref t7, .ref t8, .ref t9])), (t6, .inl (tk6, 49, .inl tf6))]) hD hS hA [1, 2] rfl
  refine va_calli (va_runV (As := [.int a]) (rest := []) ⟨hx, hb, hml, hown, hts⟩ (c_isLetter l dC dI s.heap.size x_current t0 t1 t2 t3 t4 t5 t6 t7 t8 t9 tk6 tf6 a ht6) (cwV 1 hts (goodV w_563 w_564 w_565 w_23 w_566) rfl rfl rfl hdV_X7_isLetter ⟨Nat.le_of_ble_eq_true rfl, Nat.le_of_ble_eq_true rfl⟩) ⟨fun a U g mk q => by obtain ⟨q0, q1, qP, qK, qD⟩ := q; exact ⟨q0, q1, qP, va_K.moved (u := U) (U := U.calling g mk a) (Vm.Alike.refl U.vm) qK, qD⟩, va_recv hKc hPc (ci := 7) (q0 := 0) rfl rfl, fun U hU hW => ⟨rfl, by rw [hU], by rw [hU]; exact hPc, va_K.moved hW.alike hKc, hDc.weaken (fun _ _ _ _ => trivial)⟩⟩ rfl rfl hl.1 rfl (lv_room (Nat.le_of_ble_eq_true rfl)) dX8_under_5 ⟨Nat.le_of_ble_eq_true rfl, Nat.le_of_ble_eq_true rfl⟩) hS (fun q _ h => hFc q h) hFc (fun r_1 u t H1 locs ht hvm hw hB hz1 hk1 hS => ?_)
  obtain ⟨hP1, hK1, hD1⟩ := hB
  rw [ht] at hP1
  have hK1 := va_K.moved hvm.symm hK1
  obtain ⟨hP, hD⟩ := va_join (wr := [(h0, .inr (8, [.ref x_tape, .ref x_reader, .ref x_current, .ref x_images, .ref x_kept, .ref x_slots, .ref x_diary, .ref x_base, .ref x_trial, .ref x_plan, .ref x_orders, .ref x_unanswered, .int 0, .int 0, .int (-1)]))]) (w1 := [(x_current, .inr (7, [.int 0, .int 0, .int 0, .int 0, .int 0, .int 0, .int 0, .int 0, .ref t0, .ref t1, .ref t2, .ref t3, .ref t4, .ref t5, .ref t6, .ref t7, .ref t8, .ref t9])), (t6, .inl (tk6, 49, .inl tf6))]) hP hD [1, 2] [0] rfl rfl (by decide) (by decide) hk1 hFc hP1 hD1
  clear hPc hDc hKc hFc
  generalize H1 = H at hP hS ⊢
  have hP : va_P (dC, dI) vwCl [(h0, .inr (8, [.ref x_tape, .ref x_reader, .ref x_current, .ref x_images, .ref x_kept, .ref x_slots, .ref x_diary, .ref x_base, .ref x_trial, .ref x_plan, .ref x_orders, .ref x_unanswered, .int 0, .int 0, .int (-1)])), (x_current, .inr (7, [.int 0, .int 0, .int 0, .int 0, .int 0, .int 0, .int 0, .int 0, .ref t0, .ref t1, .ref t2, .ref t3, .ref t4, .ref t5, .ref t6, .ref t7, .ref t8, .ref t9])), (t6, .inl (tk6, 49, .inl tf6))] H := hP
  have hD : va_D A [(h0, .inr (8, [.ref x_tape, .ref x_reader, .ref x_current, .ref x_images, .ref x_kept, .ref x_slots, .ref x_diary, .ref x_base, .ref x_trial, .ref x_plan, .ref x_orders, .ref x_unanswered, .int 0, .int 0, .int (-1)])), (x_current, .inr (7, [.int 0, .int 0, .int 0, .int 0, .int 0, .int 0, .int 0, .int 0, .ref t0, .ref t1, .ref t2, .ref t3, .ref t4, .ref t5, .ref t6, .ref t7, .ref t8, .ref t9])), (t6, .inl (tk6, 49, .inl tf6))] := hD
  have hw : r_1 = 0 := hw
  subst hw
  refine lv_if_eq (tgt := 22) hx hb dX8_under_8 (by decide) (fun c_2 => ?_) (fun c_2 => absurd (by decide) c_2)
  refine lv_bipush (v := (-2)) hx hb dX8_under_22 (by decide) ?_
  exact W.iret (v := (-2)) hx hb hr (fun t ht hW => ⟨⟨(-2), (), rfl, rfl, trivial⟩, hS.F ht⟩) hS.2.2 dX8_under_24
