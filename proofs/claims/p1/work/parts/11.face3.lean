set_option maxHeartbeats 4000000 in
set_option maxRecDepth 100000 in
theorem c_usedSlots (l : Launch) (dC : Nat → ClassId) (dI : Nat → Nat → Nat) (sz : Nat) (h0 : Nat) (x_tape : Nat) (x_reader : Nat) (x_current : Nat) (x_images : Nat) (x_kept : Nat) (x_slots : Nat) (x_diary : Nat) (x_base : Nat) (x_trial : Nat) (x_plan : Nat) (x_orders : Nat) (x_unanswered : Nat) (s0 : Nat) (s1 : Nat) (s2 : Nat) (s3 : Nat) (y0 : Nat) (y1 : Nat) (y2 : Nat) (y3 : Nat) (zk : ClassId)  : Met l yX8_usedSlots (.code yX8_usedSlots cX8_usedSlots 3 (some .int) :: ALLW) ({ frames := 0, cells := 0, slots := 0, locals := 0 }) (va_Pc [.ref h0] (fun U => U.heap.size = sz ∧ va_P (dC, dI) vwCl [(h0, .inr (8, [.ref x_tape, .ref x_reader, .ref x_current, .ref x_images, .ref x_kept, .ref x_slots, .ref x_diary, .ref x_base, .ref x_trial, .ref x_plan, .ref x_orders, .ref x_unanswered, .int 0, .int 0, .int (-1)])), (x_slots, .inl (zk, 4, .inr (.inr (.inr (.inr (va_up (va_up (va_up (va_up (fun _ => none) 0 (some s0)) 1 (some s1)) 2 (some s2)) 3 (some s3))))))), (s0, .inr (5, [.ref y0, .int 0, .int 0, .int 0])), (s1, .inr (5, [.ref y1, .int 0, .int 0, .int 0])), (s2, .inr (5, [.ref y2, .int 0, .int 0, .int 0])), (s3, .inr (5, [.ref y3, .int 0, .int 0, .int 0]))] U.heap ∧ va_K (dC, dI) vwCl [(zk, .object RX5)] U ∧ va_D (fun _ => True) [(h0, .inr (8, [.ref x_tape, .ref x_reader, .ref x_current, .ref x_images, .ref x_kept, .ref x_slots, .ref x_diary, .ref x_base, .ref x_trial, .ref x_plan, .ref x_orders, .ref x_unanswered, .int 0, .int 0, .int (-1)])), (x_slots, .inl (zk, 4, .inr (.inr (.inr (.inr (va_up (va_up (va_up (va_up (fun _ => none) 0 (some s0)) 1 (some s1)) 2 (some s2)) 3 (some s3))))))), (s0, .inr (5, [.ref y0, .int 0, .int 0, .int 0])), (s1, .inr (5, [.ref y1, .int 0, .int 0, .int 0])), (s2, .inr (5, [.ref y2, .int 0, .int 0, .int 0])), (s3, .inr (5, [.ref y3, .int 0, .int 0, .int 0]))])) (va_Qi (fun (r : Int32) (_ : Unit) => r = 0) (fun (_ : Unit) (t : State) => va_P (dC, dI) vwCl [(h0, .inr (8, [.ref x_tape, .ref x_reader, .ref x_current, .ref x_images, .ref x_kept, .ref x_slots, .ref x_diary, .ref x_base, .ref x_trial, .ref x_plan, .ref x_orders, .ref x_unanswered, .int 0, .int 0, .int (-1)])), (x_slots, .inl (zk, 4, .inr (.inr (.inr (.inr (va_up (va_up (va_up (va_up (fun _ => none) 0 (some s0)) 1 (some s1)) 2 (some s2)) 3 (some s3))))))), (s0, .inr (5, [.ref y0, .int 0, .int 0, .int 0])), (s1, .inr (5, [.ref y1, .int 0, .int 0, .int 0])), (s2, .inr (5, [.ref y2, .int 0, .int 0, .int 0])), (s3, .inr (5, [.ref y3, .int 0, .int 0, .int 0]))] t.heap ∧ va_K (dC, dI) vwCl [] t ∧ va_D (va_A [(h0, .inr (8, [.ref x_tape, .ref x_reader, .ref x_current, .ref x_images, .ref x_kept, .ref x_slots, .ref x_diary, .ref x_base, .ref x_trial, .ref x_plan, .ref x_orders, .ref x_unanswered, .int 0, .int 0, .int (-1)])), (x_slots, .inl (zk, 4, .inr (.inr (.inr (.inr (va_up (va_up (va_up (va_up (fun _ => none) 0 (some s0)) 1 (some s1)) 2 (some s2)) 3 (some s3))))))), (s0, .inr (5, [.ref y0, .int 0, .int 0, .int 0])), (s1, .inr (5, [.ref y1, .int 0, .int 0, .int 0])), (s2, .inr (5, [.ref y2, .int 0, .int 0, .int 0])), (s3, .inr (5, [.ref y3, .int 0, .int 0, .int 0]))] sz) [(h0, .inr (8, [.ref x_tape, .ref x_reader, .ref x_current, .ref x_images, .ref x_kept, .ref x_slots, .ref x_diary, .ref x_base, .ref x_trial, .ref x_plan, .ref x_orders, .ref x_unanswered, .int 0, .int 0, .int (-1)])), (x_slots, .inl (zk, 4, .inr (.inr (.inr (.inr (va_up (va_up (va_up (va_up (fun _ => none) 0 (some s0)) 1 (some s1)) 2 (some s2)) 3 (some s3))))))), (s0, .inr (5, [.ref y0, .int 0, .int 0, .int 0])), (s1, .inr (5, [.ref y1, .int 0, .int 0, .int 0])), (s2, .inr (5, [.ref y2, .int 0, .int 0, .int 0])), (s3, .inr (5, [.ref y3, .int 0, .int 0, .int 0]))]) (va_A [(h0, .inr (8, [.ref x_tape, .ref x_reader, .ref x_current, .ref x_images, .ref x_kept, .ref x_slots, .ref x_diary, .ref x_base, .ref x_trial, .ref x_plan, .ref x_orders, .ref x_unanswered, .int 0, .int 0, .int (-1)])), (x_slots, .inl (zk, 4, .inr (.inr (.inr (.inr (va_up (va_up (va_up (va_up (fun _ => none) 0 (some s0)) 1 (some s1)) 2 (some s2)) 3 (some s3))))))), (s0, .inr (5, [.ref y0, .int 0, .int 0, .int 0])), (s1, .inr (5, [.ref y1, .int 0, .int 0, .int 0])), (s2, .inr (5, [.ref y2, .int 0, .int 0, .int 0])), (s3, .inr (5, [.ref y3, .int 0, .int 0, .int 0]))] sz)) 0 0 (va_A [(h0, .inr (8, [.ref x_tape, .ref x_reader, .ref x_current, .ref x_images, .ref x_kept, .ref x_slots, .ref x_diary, .ref x_base, .ref x_trial, .ref x_plan, .ref x_orders, .ref x_unanswered, .int 0, .int 0, .int (-1)])), (x_slots, .inl (zk, 4, .inr (.inr (.inr (.inr (va_up (va_up (va_up (va_up (fun _ => none) 0 (some s0)) 1 (some s1)) 2 (some s2)) 3 (some s3))))))), (s0, .inr (5, [.ref y0, .int 0, .int 0, .int 0])), (s1, .inr (5, [.ref y1, .int 0, .int 0, .int 0])), (s2, .inr (5, [.ref y2, .int 0, .int 0, .int 0])), (s3, .inr (5, [.ref y3, .int 0, .int 0, .int 0]))] sz) := by
  refine Met.ofW (cc := cX8_usedSlots) (maxL := 3) (ret := (some .int)) (by decide) rfl ?_
  intro p e s m args below meth c s₁ B hml hv
  obtain ⟨rfl, hsz, hP, hK, hD0⟩ := hv
  have hx := B.exec
  have hb := B.bytes
  have hr := B.returns
  have hts0 := atoms_spec (ws := (.code yX8_usedSlots cX8_usedSlots 3 (some .int) :: ALLW)) B.pre
  have hts := fun (w : Cond) (h : w ∈ ALLW) => hts0 w (List.mem_cons_of_mem _ h)
  have hown : s.vm.findClass RX8 = some m.cls := findClass_of_methodNamed B.named
  have hlocks := B.notSynchronized
  subst hsz
  have hD := hD0.self (sz := s.heap.size)
  generalize hAe : va_A [(h0, .inr (8, [.ref x_tape, .ref x_reader, .ref x_current, .ref x_images, .ref x_kept, .ref x_slots, .ref x_diary, .ref x_base, .ref x_trial, .ref x_plan, .ref x_orders, .ref x_unanswered, .int 0, .int 0, .int (-1)])), (x_slots, .inl (zk, 4, .inr (.inr (.inr (.inr (va_up (va_up (va_up (va_up (fun _ => none) 0 (some s0)) 1 (some s1)) 2 (some s2)) 3 (some s3))))))), (s0, .inr (5, [.ref y0, .int 0, .int 0, .int 0])), (s1, .inr (5, [.ref y1, .int 0, .int 0, .int 0])), (s2, .inr (5, [.ref y2, .int 0, .int 0, .int 0])), (s3, .inr (5, [.ref y3, .int 0, .int 0, .int 0]))] s.heap.size = A at hD ⊢
  have hA : ∀ q : Nat, s.heap.size ≤ q → A q := fun q h => by rw [← hAe]; exact Or.inr h
  have hS : va_S A s.heap s.heap [] := va_S.rf
  have hP : va_P (dC, dI) vwCl [(h0, .inr (8, [.ref x_tape, .ref x_reader, .ref x_current, .ref x_images, .ref x_kept, .ref x_slots, .ref x_diary, .ref x_base, .ref x_trial, .ref x_plan, .ref x_orders, .ref x_unanswered, .int 0, .int 0, .int (-1)])), (x_slots, .inl (zk, 4, .inr (.inr (.inr (.inr (va_up (va_up (va_up (va_up (fun _ => none) 0 (some s0)) 1 (some s1)) 2 (some s2)) 3 (some s3))))))), (s0, .inr (5, [.ref y0, .int 0, .int 0, .int 0])), (s1, .inr (5, [.ref y1, .int 0, .int 0, .int 0])), (s2, .inr (5, [.ref y2, .int 0, .int 0, .int 0])), (s3, .inr (5, [.ref y3, .int 0, .int 0, .int 0]))] s.heap := hP
  have hl := lv_entry ([.ref h0]) (n := 3) (Nat.le_of_ble_eq_true rfl)
  rw [lg_entry_eq]
  generalize (lg_sl ([.ref h0]) ++ List.replicate (3 - (lg_sl ([.ref h0])).length) Slot.unset).toArray = ls at hl ⊢
  have hl : lv_has ls 3 [(0, .ref h0)] := hl
  refine lv_iconst (v := 0) hx hb dX8_usedSlots_0 (by decide) ?_
  refine lv_istore_n (lv' := [(1, .int 0), (0, .ref h0)]) hx hb dX8_usedSlots_1 rfl hl (by decide) rfl (fun ls hl => ?_)
  refine lv_iconst (v := 0) hx hb dX8_usedSlots_2 (by decide) ?_
  refine lv_istore_n (lv' := [(2, .int 0), (1, .int 0), (0, .ref h0)]) hx hb dX8_usedSlots_3 rfl hl (by decide) rfl (fun ls hl => ?_)
  refine lv_iload_n hx hb dX8_usedSlots_4 rfl (lv_at hl 0 rfl) ?_
  refine lv_iconst (v := 4) hx hb dX8_usedSlots_5 (by decide) ?_
  refine lv_icmp_ge (tgt := 35) hx hb dX8_usedSlots_6 (by decide) (fun c_1 => absurd c_1 (by decide)) (fun c_1 => ?_)
  refine lv_iload_n hx hb dX8_usedSlots_9 rfl (lv_at hl 1 rfl) ?_
  refine lv_aload_n hx hb dX8_usedSlots_10 rfl (lv_at hl 2 rfl) ?_
  refine va_get (D := (dC, dI)) (ci := 8) (v := .ref x_slots) (C := RX8) (T := TX8) (N := 15) hx hb hts inA8 hown hK hP 0 rfl rfl 5 (by decide) (hts _ w_29) (fun _ h9 => h9) rfl dX8_usedSlots_11 ?_
  refine lv_iload_n hx hb dX8_usedSlots_14 rfl (lv_at hl 0 rfl) ?_
  refine va_aldq hx hb hK hP 1 0 rfl rfl (show vp_in 0 4 from (by unfold vp_in; decide)) dX8_usedSlots_15 ?_
  refine W.eq (g2 := F0 m 16 ls [.ref s0, .int 0]) rfl ?_
  refine va_get (D := (dC, dI)) (ci := 5) (v := .int 0) (C := RX5) (T := TX5) (N := 4) hx hb hts inA5 hown hK hP 2 rfl rfl 1 (by decide) (hts _ w_1283) (fun _ h9 => h9) rfl dX8_usedSlots_16 ?_
  refine lv_if_eq (tgt := 26) hx hb dX8_usedSlots_19 (by decide) (fun c_2 => ?_) (fun c_2 => absurd (by decide) c_2)
  refine lv_iconst (v := 0) hx hb dX8_usedSlots_26 (by decide) ?_
  refine lv_iadd hx hb dX8_usedSlots_27 ?_
  refine lv_topi (fun x_3 ex_3 => ?_)
  obtain rfl : x_3 = 0 := ex_3.trans (by decide +kernel)
  refine lv_istore_n (lv' := [(1, .int 0), (2, .int 0), (0, .ref h0)]) hx hb dX8_usedSlots_28 rfl hl (by decide) rfl (fun ls hl => ?_)
  refine lv_iinc (v := 1) (lv' := [(2, .int 1), (1, .int 0), (0, .ref h0)]) hx hb dX8_usedSlots_29 hl (k := 1) rfl (by decide) (by decide) rfl (fun ls hl => ?_)
  refine lv_goto (tgt := 4) hx hb dX8_usedSlots_32 (by decide) ?_
  refine lv_iload_n hx hb dX8_usedSlots_4 rfl (lv_at hl 0 rfl) ?_
  refine lv_iconst (v := 4) hx hb dX8_usedSlots_5 (by decide) ?_
  refine lv_icmp_ge (tgt := 35) hx hb dX8_usedSlots_6 (by decide) (fun c_4 => absurd c_4 (by decide)) (fun c_4 => ?_)
  refine lv_iload_n hx hb dX8_usedSlots_9 rfl (lv_at hl 1 rfl) ?_
  refine lv_aload_n hx hb dX8_usedSlots_10 rfl (lv_at hl 2 rfl) ?_
  refine va_get (D := (dC, dI)) (ci := 8) (v := .ref x_slots) (C := RX8) (T := TX8) (N := 15) hx hb hts inA8 hown hK hP 0 rfl rfl 5 (by decide) (hts _ w_29) (fun _ h9 => h9) rfl dX8_usedSlots_11 ?_
  refine lv_iload_n hx hb dX8_usedSlots_14 rfl (lv_at hl 0 rfl) ?_
  refine va_aldq hx hb hK hP 1 0 rfl rfl (show vp_in 1 4 from (by unfold vp_in; decide)) dX8_usedSlots_15 ?_
  refine W.eq (g2 := F0 m 16 ls [.ref s1, .int 0]) rfl ?_
  refine va_get (D := (dC, dI)) (ci := 5) (v := .int 0) (C := RX5) (T := TX5) (N := 4) hx hb hts inA5 hown hK hP 3 rfl rfl 1 (by decide) (hts _ w_1283) (fun _ h9 => h9) rfl dX8_usedSlots_16 ?_
  refine lv_if_eq (tgt := 26) hx hb dX8_usedSlots_19 (by decide) (fun c_5 => ?_) (fun c_5 => absurd (by decide) c_5)
  refine lv_iconst (v := 0) hx hb dX8_usedSlots_26 (by decide) ?_
  refine lv_iadd hx hb dX8_usedSlots_27 ?_
  refine lv_topi (fun x_6 ex_6 => ?_)
  obtain rfl : x_6 = 0 := ex_6.trans (by decide +kernel)
  refine lv_istore_n (lv' := [(1, .int 0), (2, .int 1), (0, .ref h0)]) hx hb dX8_usedSlots_28 rfl hl (by decide) rfl (fun ls hl => ?_)
  refine lv_iinc (v := 2) (lv' := [(2, .int 2), (1, .int 0), (0, .ref h0)]) hx hb dX8_usedSlots_29 hl (k := 1) rfl (by decide) (by decide) rfl (fun ls hl => ?_)
  refine lv_goto (tgt := 4) hx hb dX8_usedSlots_32 (by decide) ?_
  refine lv_iload_n hx hb dX8_usedSlots_4 rfl (lv_at hl 0 rfl) ?_
  refine lv_iconst (v := 4) hx hb dX8_usedSlots_5 (by decide) ?_
  refine lv_icmp_ge (tgt := 35) hx hb dX8_usedSlots_6 (by decide) (fun c_7 => absurd c_7 (by decide)) (fun c_7 => ?_)
  refine lv_iload_n hx hb dX8_usedSlots_9 rfl (lv_at hl 1 rfl) ?_
  refine lv_aload_n hx hb dX8_usedSlots_10 rfl (lv_at hl 2 rfl) ?_
  refine va_get (D := (dC, dI)) (ci := 8) (v := .ref x_slots) (C := RX8) (T := TX8) (N := 15) hx hb hts inA8 hown hK hP 0 rfl rfl 5 (by decide) (hts _ w_29) (fun _ h9 => h9) rfl dX8_usedSlots_11 ?_
  refine lv_iload_n hx hb dX8_usedSlots_14 rfl (lv_at hl 0 rfl) ?_
  refine va_aldq hx hb hK hP 1 0 rfl rfl (show vp_in 2 4 from (by unfold vp_in; decide)) dX8_usedSlots_15 ?_
  refine W.eq (g2 := F0 m 16 ls [.ref s2, .int 0]) rfl ?_
  refine va_get (D := (dC, dI)) (ci := 5) (v := .int 0) (C := RX5) (T := TX5) (N := 4) hx hb hts inA5 hown hK hP 4 rfl rfl 1 (by decide) (hts _ w_1283) (fun _ h9 => h9) rfl dX8_usedSlots_16 ?_
  refine lv_if_eq (tgt := 26) hx hb dX8_usedSlots_19 (by decide) (fun c_8 => ?_) (fun c_8 => absurd (by decide) c_8)
  refine lv_iconst (v := 0) hx hb dX8_usedSlots_26 (by decide) ?_
  refine lv_iadd hx hb dX8_usedSlots_27 ?_
  refine lv_topi (fun x_9 ex_9 => ?_)
  obtain rfl : x_9 = 0 := ex_9.trans (by decide +kernel)
  refine lv_istore_n (lv' := [(1, .int 0), (2, .int 2), (0, .ref h0)]) hx hb dX8_usedSlots_28 rfl hl (by decide) rfl (fun ls hl => ?_)
  refine lv_iinc (v := 3) (lv' := [(2, .int 3), (1, .int 0), (0, .ref h0)]) hx hb dX8_usedSlots_29 hl (k := 1) rfl (by decide) (by decide) rfl (fun ls hl => ?_)
  refine lv_goto (tgt := 4) hx hb dX8_usedSlots_32 (by decide) ?_
  refine lv_iload_n hx hb dX8_usedSlots_4 rfl (lv_at hl 0 rfl) ?_
  refine lv_iconst (v := 4) hx hb dX8_usedSlots_5 (by decide) ?_
  refine lv_icmp_ge (tgt := 35) hx hb dX8_usedSlots_6 (by decide) (fun c_10 => absurd c_10 (by decide)) (fun c_10 => ?_)
  refine lv_iload_n hx hb dX8_usedSlots_9 rfl (lv_at hl 1 rfl) ?_
  refine lv_aload_n hx hb dX8_usedSlots_10 rfl (lv_at hl 2 rfl) ?_
  refine va_get (D := (dC, dI)) (ci := 8) (v := .ref x_slots) (C := RX8) (T := TX8) (N := 15) hx hb hts inA8 hown hK hP 0 rfl rfl 5 (by decide) (hts _ w_29) (fun _ h9 => h9) rfl dX8_usedSlots_11 ?_
  refine lv_iload_n hx hb dX8_usedSlots_14 rfl (lv_at hl 0 rfl) ?_
  refine va_aldq hx hb hK hP 1 0 rfl rfl (show vp_in 3 4 from (by unfold vp_in; decide)) dX8_usedSlots_15 ?_
  refine W.eq (g2 := F0 m 16 ls [.ref s3, .int 0]) rfl ?_
  refine va_get (D := (dC, dI)) (ci := 5) (v := .int 0) (C := RX5) (T := TX5) (N := 4) hx hb hts inA5 hown hK hP 5 rfl rfl 1 (by decide) (hts _ w_1283) (fun _ h9 => h9) rfl dX8_usedSlots_16 ?_
  refine lv_if_eq (tgt := 26) hx hb dX8_usedSlots_19 (by decide) (fun c_11 => ?_) (fun c_11 => absurd (by decide) c_11)
  refine lv_iconst (v := 0) hx hb dX8_usedSlots_26 (by decide) ?_
  refine lv_iadd hx hb dX8_usedSlots_27 ?_
  refine lv_topi (fun x_12 ex_12 => ?_)
  obtain rfl : x_12 = 0 := ex_12.trans (by decide +kernel)
  refine lv_istore_n (lv' := [(1, .int 0), (2, .int 3), (0, .ref h0)]) hx hb dX8_usedSlots_28 rfl hl (by decide) rfl (fun ls hl => ?_)
  refine lv_iinc (v := 4) (lv' := [(2, .int 4), (1, .int 0), (0, .ref h0)]) hx hb dX8_usedSlots_29 hl (k := 1) rfl (by decide) (by decide) rfl (fun ls hl => ?_)
  refine lv_goto (tgt := 4) hx hb dX8_usedSlots_32 (by decide) ?_
  refine lv_iload_n hx hb dX8_usedSlots_4 rfl (lv_at hl 0 rfl) ?_
  refine lv_iconst (v := 4) hx hb dX8_usedSlots_5 (by decide) ?_
  refine lv_icmp_ge (tgt := 35) hx hb dX8_usedSlots_6 (by decide) (fun c_13 => ?_) (fun c_13 => absurd (by decide) c_13)
  refine lv_iload_n hx hb dX8_usedSlots_35 rfl (lv_at hl 1 rfl) ?_
  have hP9 := hP.sub (ws' := [(h0, .inr (8, [.ref x_tape, .ref x_reader, .ref x_current, .ref x_images, .ref x_kept, .ref x_slots, .ref x_diary, .ref x_base, .ref x_trial, .ref x_plan, .ref x_orders, .ref x_unanswered, .int 0, .int 0, .int (-1)])), (x_slots, .inl (zk, 4, .inr (.inr (.inr (.inr (va_up (va_up (va_up (va_up (fun _ => none) 0 (some s0)) 1 (some s1)) 2 (some s2)) 3 (some s3))))))), (s0, .inr (5, [.ref y0, .int 0, .int 0, .int 0])), (s1, .inr (5, [.ref y1, .int 0, .int 0, .int 0])), (s2, .inr (5, [.ref y2, .int 0, .int 0, .int 0])), (s3, .inr (5, [.ref y3, .int 0, .int 0, .int 0]))]) [0, 1, 2, 3, 4, 5] rfl
  have hD9 := hD.sub (ws' := [(h0, .inr (8, [.ref x_tape, .ref x_reader, .ref x_current, .ref x_images, .ref x_kept, .ref x_slots, .ref x_diary, .ref x_base, .ref x_trial, .ref x_plan, .ref x_orders, .ref x_unanswered, .int 0, .int 0, .int (-1)])), (x_slots, .inl (zk, 4, .inr (.inr (.inr (.inr (va_up (va_up (va_up (va_up (fun _ => none) 0 (some s0)) 1 (some s1)) 2 (some s2)) 3 (some s3))))))), (s0, .inr (5, [.ref y0, .int 0, .int 0, .int 0])), (s1, .inr (5, [.ref y1, .int 0, .int 0, .int 0])), (s2, .inr (5, [.ref y2, .int 0, .int 0, .int 0])), (s3, .inr (5, [.ref y3, .int 0, .int 0, .int 0]))]) [0, 1, 2, 3, 4, 5] (by decide) rfl
  have hK9 := hK.sub (tys' := []) [] rfl
  exact W.iret (v := 0) hx hb hr (fun t ht hW => ⟨⟨0, (), rfl, rfl, by rw [ht]; exact hP9, va_K.moved hW.alike hK9, hD9⟩, hS.F ht⟩) hS.2.2 dX8_usedSlots_36
set_option maxHeartbeats 4000000 in
set_option maxRecDepth 100000 in
theorem x_count0 (l : Launch) (dC : Nat → ClassId) (dI : Nat → Nat → Nat) (sz : Nat) (h0 : Nat) (x_tape : Nat) (x_reader : Nat) (x_current : Nat) (x_images : Nat) (x_kept : Nat) (x_slots : Nat) (x_diary : Nat) (x_base : Nat) (x_trial : Nat) (x_plan : Nat) (x_orders : Nat) (x_unanswered : Nat) (t0 : Nat) (t1 : Nat) (t2 : Nat) (t3 : Nat) (t4 : Nat) (t5 : Nat) (t6 : Nat) (t7 : Nat) (t8 : Nat) (t9 : Nat)  : Met l yX8_count (.code yX8_count cX8_count 2 (some .int) :: ALLW) ({ frames := 0, cells := 0, slots := 0, locals := 0 }) (va_Pc [.ref h0, .int 0] (fun U => U.heap.size = sz ∧ va_P (dC, dI) vwCl [(h0, .inr (8, [.ref x_tape, .ref x_reader, .ref x_current, .ref x_images, .ref x_kept, .ref x_slots, .ref x_diary, .ref x_base, .ref x_trial, .ref x_plan, .ref x_orders, .ref x_unanswered, .int 0, .int 0, .int (-1)])), (x_current, .inr (7, [.int 0, .int 0, .int 0, .int 0, .int 0, .int 0, .int 0, .int 0, .ref t0, .ref t1, .ref t2, .ref t3, .ref t4, .ref t5, .ref t6, .ref t7, .ref t8, .ref t9]))] U.heap ∧ va_K (dC, dI) vwCl [] U ∧ va_D (fun _ => True) [(h0, .inr (8, [.ref x_tape, .ref x_reader, .ref x_current, .ref x_images, .ref x_kept, .ref x_slots, .ref x_diary, .ref x_base, .ref x_trial, .ref x_plan, .ref x_orders, .ref x_unanswered, .int 0, .int 0, .int (-1)])), (x_current, .inr (7, [.int 0, .int 0, .int 0, .int 0, .int 0, .int 0, .int 0, .int 0, .ref t0, .ref t1, .ref t2, .ref t3, .ref t4, .ref t5, .ref t6, .ref t7, .ref t8, .ref t9]))])) (va_Qi (fun (r : Int32) (_ : Unit) => r = 0) (fun (_ : Unit) (_ : State) => True) (va_A [(h0, .inr (8, [.ref x_tape, .ref x_reader, .ref x_current, .ref x_images, .ref x_kept, .ref x_slots, .ref x_diary, .ref x_base, .ref x_trial, .ref x_plan, .ref x_orders, .ref x_unanswered, .int 0, .int 0, .int (-1)])), (x_current, .inr (7, [.int 0, .int 0, .int 0, .int 0, .int 0, .int 0, .int 0, .int 0, .ref t0, .ref t1, .ref t2, .ref t3, .ref t4, .ref t5, .ref t6, .ref t7, .ref t8, .ref t9]))] sz)) 0 0 (va_A [(h0, .inr (8, [.ref x_tape, .ref x_reader, .ref x_current, .ref x_images, .ref x_kept, .ref x_slots, .ref x_diary, .ref x_base, .ref x_trial, .ref x_plan, .ref x_orders, .ref x_unanswered, .int 0, .int 0, .int (-1)])), (x_current, .inr (7, [.int 0, .int 0, .int 0, .int 0, .int 0, .int 0, .int 0, .int 0, .ref t0, .ref t1, .ref t2, .ref t3, .ref t4, .ref t5, .ref t6, .ref t7, .ref t8, .ref t9]))] sz) := by
  refine Met.ofW (cc := cX8_count) (maxL := 2) (ret := (some .int)) (by decide) rfl ?_
  intro p e s m args below meth c s₁ B hml hv
  obtain ⟨rfl, hsz, hP, hK, hD0⟩ := hv
  have hx := B.exec
  have hb := B.bytes
  have hr := B.returns
  have hts0 := atoms_spec (ws := (.code yX8_count cX8_count 2 (some .int) :: ALLW)) B.pre
  have hts := fun (w : Cond) (h : w ∈ ALLW) => hts0 w (List.mem_cons_of_mem _ h)
  have hown : s.vm.findClass RX8 = some m.cls := findClass_of_methodNamed B.named
  have hlocks := B.notSynchronized
  subst hsz
  have hD := hD0.self (sz := s.heap.size)
  generalize hAe : va_A [(h0, .inr (8, [.ref x_tape, .ref x_reader, .ref x_current, .ref x_images, .ref x_kept, .ref x_slots, .ref x_diary, .ref x_base, .ref x_trial, .ref x_plan, .ref x_orders, .ref x_unanswered, .int 0, .int 0, .int (-1)])), (x_current, .inr (7, [.int 0, .int 0, .int 0, .int 0, .int 0, .int 0, .int 0, .int 0, .ref t0, .ref t1, .ref t2, .ref t3, .ref t4, .ref t5, .ref t6, .ref t7, .ref t8, .ref t9]))] s.heap.size = A at hD ⊢
  have hA : ∀ q : Nat, s.heap.size ≤ q → A q := fun q h => by rw [← hAe]; exact Or.inr h
  have hS : va_S A s.heap s.heap [] := va_S.rf
  have hP : va_P (dC, dI) vwCl [(h0, .inr (8, [.ref x_tape, .ref x_reader, .ref x_current, .ref x_images, .ref x_kept, .ref x_slots, .ref x_diary, .ref x_base, .ref x_trial, .ref x_plan, .ref x_orders, .ref x_unanswered, .int 0, .int 0, .int (-1)])), (x_current, .inr (7, [.int 0, .int 0, .int 0, .int 0, .int 0, .int 0, .int 0, .int 0, .ref t0, .ref t1, .ref t2, .ref t3, .ref t4, .ref t5, .ref t6, .ref t7, .ref t8, .ref t9]))] s.heap := hP
  have hl := lv_entry ([.ref h0, .int 0]) (n := 2) (Nat.le_of_ble_eq_true rfl)
  rw [lg_entry_eq]
  generalize (lg_sl ([.ref h0, .int 0]) ++ List.replicate (2 - (lg_sl ([.ref h0, .int 0])).length) Slot.unset).toArray = ls at hl ⊢
  have hl : lv_has ls 2 [(0, .ref h0), (1, .int 0)] := hl
  refine lv_iload_n hx hb dX8_count_0 rfl (lv_at hl 1 rfl) ?_
  refine lv_tableIn (tgt := 52) hx hb dX8_count_1 (by decide) (by decide) rfl (by decide) ?_
  refine lv_aload_n hx hb dX8_count_52 rfl (lv_at hl 0 rfl) ?_
  refine va_get (D := (dC, dI)) (ci := 8) (v := .ref x_current) (C := RX8) (T := TX8) (N := 15) hx hb hts inA8 hown hK hP 0 rfl rfl 2 (by decide) (hts _ w_24) (fun _ h9 => h9) rfl dX8_count_53 ?_
  refine va_get (D := (dC, dI)) (ci := 7) (v := .int 0) (C := RX7) (T := TX7) (N := 18) hx hb hts inA7 hown hK hP 1 rfl rfl 5 (by decide) (hts _ w_1303) (fun _ h9 => h9) rfl dX8_count_56 ?_
  exact W.iret (v := 0) hx hb hr (fun t ht hW => ⟨⟨0, (), rfl, rfl, trivial⟩, hS.F ht⟩) hS.2.2 dX8_count_59
set_option maxHeartbeats 4000000 in
set_option maxRecDepth 100000 in
theorem x_count1 (l : Launch) (dC : Nat → ClassId) (dI : Nat → Nat → Nat) (sz : Nat) (h0 : Nat) (x_tape : Nat) (x_reader : Nat) (x_current : Nat) (x_images : Nat) (x_kept : Nat) (x_slots : Nat) (x_diary : Nat) (x_base : Nat) (x_trial : Nat) (x_plan : Nat) (x_orders : Nat) (x_unanswered : Nat) (t0 : Nat) (t1 : Nat) (t2 : Nat) (t3 : Nat) (t4 : Nat) (t5 : Nat) (t6 : Nat) (t7 : Nat) (t8 : Nat) (t9 : Nat)  : Met l yX8_count (.code yX8_count cX8_count 2 (some .int) :: ALLW) ({ frames := 0, cells := 0, slots := 0, locals := 0 }) (va_Pc [.ref h0, .int 1] (fun U => U.heap.size = sz ∧ va_P (dC, dI) vwCl [(h0, .inr (8, [.ref x_tape, .ref x_reader, .ref x_current, .ref x_images, .ref x_kept, .ref x_slots, .ref x_diary, .ref x_base, .ref x_trial, .ref x_plan, .ref x_orders, .ref x_unanswered, .int 0, .int 0, .int (-1)])), (x_current, .inr (7, [.int 0, .int 0, .int 0, .int 0, .int 0, .int 0, .int 0, .int 0, .ref t0, .ref t1, .ref t2, .ref t3, .ref t4, .ref t5, .ref t6, .ref t7, .ref t8, .ref t9]))] U.heap ∧ va_K (dC, dI) vwCl [] U ∧ va_D (fun _ => True) [(h0, .inr (8, [.ref x_tape, .ref x_reader, .ref x_current, .ref x_images, .ref x_kept, .ref x_slots, .ref x_diary, .ref x_base, .ref x_trial, .ref x_plan, .ref x_orders, .ref x_unanswered, .int 0, .int 0, .int (-1)])), (x_current, .inr (7, [.int 0, .int 0, .int 0, .int 0, .int 0, .int 0, .int 0, .int 0, .ref t0, .ref t1, .ref t2, .ref t3, .ref t4, .ref t5, .ref t6, .ref t7, .ref t8, .ref t9]))])) (va_Qi (fun (r : Int32) (_ : Unit) => r = 0) (fun (_ : Unit) (_ : State) => True) (va_A [(h0, .inr (8, [.ref x_tape, .ref x_reader, .ref x_current, .ref x_images, .ref x_kept, .ref x_slots, .ref x_diary, .ref x_base, .ref x_trial, .ref x_plan, .ref x_orders, .ref x_unanswered, .int 0, .int 0, .int (-1)])), (x_current, .inr (7, [.int 0, .int 0, .int 0, .int 0, .int 0, .int 0, .int 0, .int 0, .ref t0, .ref t1, .ref t2, .ref t3, .ref t4, .ref t5, .ref t6, .ref t7, .ref t8, .ref t9]))] sz)) 0 0 (va_A [(h0, .inr (8, [.ref x_tape, .ref x_reader, .ref x_current, .ref x_images, .ref x_kept, .ref x_slots, .ref x_diary, .ref x_base, .ref x_trial, .ref x_plan, .ref x_orders, .ref x_unanswered, .int 0, .int 0, .int (-1)])), (x_current, .inr (7, [.int 0, .int 0, .int 0, .int 0, .int 0, .int 0, .int 0, .int 0, .ref t0, .ref t1, .ref t2, .ref t3, .ref t4, .ref t5, .ref t6, .ref t7, .ref t8, .ref t9]))] sz) := by
  refine Met.ofW (cc := cX8_count) (maxL := 2) (ret := (some .int)) (by decide) rfl ?_
  intro p e s m args below meth c s₁ B hml hv
  obtain ⟨rfl, hsz, hP, hK, hD0⟩ := hv
  have hx := B.exec
  have hb := B.bytes
  have hr := B.returns
  have hts0 := atoms_spec (ws := (.code yX8_count cX8_count 2 (some .int) :: ALLW)) B.pre
  have hts := fun (w : Cond) (h : w ∈ ALLW) => hts0 w (List.mem_cons_of_mem _ h)
  have hown : s.vm.findClass RX8 = some m.cls := findClass_of_methodNamed B.named
  have hlocks := B.notSynchronized
  subst hsz
  have hD := hD0.self (sz := s.heap.size)
  generalize hAe : va_A [(h0, .inr (8, [.ref x_tape, .ref x_reader, .ref x_current, .ref x_images, .ref x_kept, .ref x_slots, .ref x_diary, .ref x_base, .ref x_trial, .ref x_plan, .ref x_orders, .ref x_unanswered, .int 0, .int 0, .int (-1)])), (x_current, .inr (7, [.int 0, .int 0, .int 0, .int 0, .int 0, .int 0, .int 0, .int 0, .ref t0, .ref t1, .ref t2, .ref t3, .ref t4, .ref t5, .ref t6, .ref t7, .ref t8, .ref t9]))] s.heap.size = A at hD ⊢
  have hA : ∀ q : Nat, s.heap.size ≤ q → A q := fun q h => by rw [← hAe]; exact Or.inr h
  have hS : va_S A s.heap s.heap [] := va_S.rf
  have hP : va_P (dC, dI) vwCl [(h0, .inr (8, [.ref x_tape, .ref x_reader, .ref x_current, .ref x_images, .ref x_kept, .ref x_slots, .ref x_diary, .ref x_base, .ref x_trial, .ref x_plan, .ref x_orders, .ref x_unanswered, .int 0, .int 0, .int (-1)])), (x_current, .inr (7, [.int 0, .int 0, .int 0, .int 0, .int 0, .int 0, .int 0, .int 0, .ref t0, .ref t1, .ref t2, .ref t3, .ref t4, .ref t5, .ref t6, .ref t7, .ref t8, .ref t9]))] s.heap := hP
  have hl := lv_entry ([.ref h0, .int 1]) (n := 2) (Nat.le_of_ble_eq_true rfl)
  rw [lg_entry_eq]
  generalize (lg_sl ([.ref h0, .int 1]) ++ List.replicate (2 - (lg_sl ([.ref h0, .int 1])).length) Slot.unset).toArray = ls at hl ⊢
  have hl : lv_has ls 2 [(0, .ref h0), (1, .int 1)] := hl
  refine lv_iload_n hx hb dX8_count_0 rfl (lv_at hl 1 rfl) ?_
  refine lv_tableIn (tgt := 60) hx hb dX8_count_1 (by decide) (by decide) rfl (by decide) ?_
  refine lv_aload_n hx hb dX8_count_60 rfl (lv_at hl 0 rfl) ?_
  refine va_get (D := (dC, dI)) (ci := 8) (v := .ref x_current) (C := RX8) (T := TX8) (N := 15) hx hb hts inA8 hown hK hP 0 rfl rfl 2 (by decide) (hts _ w_24) (fun _ h9 => h9) rfl dX8_count_61 ?_
  refine va_get (D := (dC, dI)) (ci := 7) (v := .int 0) (C := RX7) (T := TX7) (N := 18) hx hb hts inA7 hown hK hP 1 rfl rfl 6 (by decide) (hts _ w_994) (fun _ h9 => h9) rfl dX8_count_64 ?_
  exact W.iret (v := 0) hx hb hr (fun t ht hW => ⟨⟨0, (), rfl, rfl, trivial⟩, hS.F ht⟩) hS.2.2 dX8_count_67
set_option maxHeartbeats 4000000 in
set_option maxRecDepth 100000 in
theorem x_count2 (l : Launch) (dC : Nat → ClassId) (dI : Nat → Nat → Nat) (sz : Nat) (h0 : Nat) (x_tape : Nat) (x_reader : Nat) (x_current : Nat) (x_images : Nat) (x_kept : Nat) (x_slots : Nat) (x_diary : Nat) (x_base : Nat) (x_trial : Nat) (x_plan : Nat) (x_orders : Nat) (x_unanswered : Nat) (t0 : Nat) (t1 : Nat) (t2 : Nat) (t3 : Nat) (t4 : Nat) (t5 : Nat) (t6 : Nat) (t7 : Nat) (t8 : Nat) (t9 : Nat)  : Met l yX8_count (.code yX8_count cX8_count 2 (some .int) :: ALLW) ({ frames := 0, cells := 0, slots := 0, locals := 0 }) (va_Pc [.ref h0, .int 2] (fun U => U.heap.size = sz ∧ va_P (dC, dI) vwCl [(h0, .inr (8, [.ref x_tape, .ref x_reader, .ref x_current, .ref x_images, .ref x_kept, .ref x_slots, .ref x_diary, .ref x_base, .ref x_trial, .ref x_plan, .ref x_orders, .ref x_unanswered, .int 0, .int 0, .int (-1)])), (x_current, .inr (7, [.int 0, .int 0, .int 0, .int 0, .int 0, .int 0, .int 0, .int 0, .ref t0, .ref t1, .ref t2, .ref t3, .ref t4, .ref t5, .ref t6, .ref t7, .ref t8, .ref t9]))] U.heap ∧ va_K (dC, dI) vwCl [] U ∧ va_D (fun _ => True) [(h0, .inr (8, [.ref x_tape, .ref x_reader, .ref x_current, .ref x_images, .ref x_kept, .ref x_slots, .ref x_diary, .ref x_base, .ref x_trial, .ref x_plan, .ref x_orders, .ref x_unanswered, .int 0, .int 0, .int (-1)])), (x_current, .inr (7, [.int 0, .int 0, .int 0, .int 0, .int 0, .int 0, .int 0, .int 0, .ref t0, .ref t1, .ref t2, .ref t3, .ref t4, .ref t5, .ref t6, .ref t7, .ref t8, .ref t9]))])) (va_Qi (fun (r : Int32) (_ : Unit) => r = 0) (fun (_ : Unit) (_ : State) => True) (va_A [(h0, .inr (8, [.ref x_tape, .ref x_reader, .ref x_current, .ref x_images, .ref x_kept, .ref x_slots, .ref x_diary, .ref x_base, .ref x_trial, .ref x_plan, .ref x_orders, .ref x_unanswered, .int 0, .int 0, .int (-1)])), (x_current, .inr (7, [.int 0, .int 0, .int 0, .int 0, .int 0, .int 0, .int 0, .int 0, .ref t0, .ref t1, .ref t2, .ref t3, .ref t4, .ref t5, .ref t6, .ref t7, .ref t8, .ref t9]))] sz)) 0 0 (va_A [(h0, .inr (8, [.ref x_tape, .ref x_reader, .ref x_current, .ref x_images, .ref x_kept, .ref x_slots, .ref x_diary, .ref x_base, .ref x_trial, .ref x_plan, .ref x_orders, .ref x_unanswered, .int 0, .int 0, .int (-1)])), (x_current, .inr (7, [.int 0, .int 0, .int 0, .int 0, .int 0, .int 0, .int 0, .int 0, .ref t0, .ref t1, .ref t2, .ref t3, .ref t4, .ref t5, .ref t6, .ref t7, .ref t8, .ref t9]))] sz) := by
  refine Met.ofW (cc := cX8_count) (maxL := 2) (ret := (some .int)) (by decide) rfl ?_
  intro p e s m args below meth c s₁ B hml hv
  obtain ⟨rfl, hsz, hP, hK, hD0⟩ := hv
  have hx := B.exec
  have hb := B.bytes
  have hr := B.returns
  have hts0 := atoms_spec (ws := (.code yX8_count cX8_count 2 (some .int) :: ALLW)) B.pre
  have hts := fun (w : Cond) (h : w ∈ ALLW) => hts0 w (List.mem_cons_of_mem _ h)
  have hown : s.vm.findClass RX8 = some m.cls := findClass_of_methodNamed B.named
  have hlocks := B.notSynchronized
  subst hsz
  have hD := hD0.self (sz := s.heap.size)
  generalize hAe : va_A [(h0, .inr (8, [.ref x_tape, .ref x_reader, .ref x_current, .ref x_images, .ref x_kept, .ref x_slots, .ref x_diary, .ref x_base, .ref x_trial, .ref x_plan, .ref x_orders, .ref x_unanswered, .int 0, .int 0, .int (-1)])), (x_current, .inr (7, [.int 0, .int 0, .int 0, .int 0, .int 0, .int 0, .int 0, .int 0, .ref t0, .ref t1, .ref t2, .ref t3, .ref t4, .ref t5, .ref t6, .ref t7, .ref t8, .ref t9]))] s.heap.size = A at hD ⊢
  have hA : ∀ q : Nat, s.heap.size ≤ q → A q := fun q h => by rw [← hAe]; exact Or.inr h
  have hS : va_S A s.heap s.heap [] := va_S.rf
  have hP : va_P (dC, dI) vwCl [(h0, .inr (8, [.ref x_tape, .ref x_reader, .ref x_current, .ref x_images, .ref x_kept, .ref x_slots, .ref x_diary, .ref x_base, .ref x_trial, .ref x_plan, .ref x_orders, .ref x_unanswered, .int 0, .int 0, .int (-1)])), (x_current, .inr (7, [.int 0, .int 0, .int 0, .int 0, .int 0, .int 0, .int 0, .int 0, .ref t0, .ref t1, .ref t2, .ref t3, .ref t4, .ref t5, .ref t6, .ref t7, .ref t8, .ref t9]))] s.heap := hP
  have hl := lv_entry ([.ref h0, .int 2]) (n := 2) (Nat.le_of_ble_eq_true rfl)
  rw [lg_entry_eq]
  generalize (lg_sl ([.ref h0, .int 2]) ++ List.replicate (2 - (lg_sl ([.ref h0, .int 2])).length) Slot.unset).toArray = ls at hl ⊢
  have hl : lv_has ls 2 [(0, .ref h0), (1, .int 2)] := hl
  refine lv_iload_n hx hb dX8_count_0 rfl (lv_at hl 1 rfl) ?_
  refine lv_tableIn (tgt := 68) hx hb dX8_count_1 (by decide) (by decide) rfl (by decide) ?_
  refine lv_aload_n hx hb dX8_count_68 rfl (lv_at hl 0 rfl) ?_
  refine va_get (D := (dC, dI)) (ci := 8) (v := .ref x_current) (C := RX8) (T := TX8) (N := 15) hx hb hts inA8 hown hK hP 0 rfl rfl 2 (by decide) (hts _ w_24) (fun _ h9 => h9) rfl dX8_count_69 ?_
  refine va_get (D := (dC, dI)) (ci := 7) (v := .int 0) (C := RX7) (T := TX7) (N := 18) hx hb hts inA7 hown hK hP 1 rfl rfl 0 (by decide) (hts _ w_1158) (fun _ h9 => h9) rfl dX8_count_72 ?_
  exact W.iret (v := 0) hx hb hr (fun t ht hW => ⟨⟨0, (), rfl, rfl, trivial⟩, hS.F ht⟩) hS.2.2 dX8_count_75
set_option maxHeartbeats 4000000 in
set_option maxRecDepth 100000 in
theorem x_count3 (l : Launch) (dC : Nat → ClassId) (dI : Nat → Nat → Nat) (sz : Nat) (h0 : Nat) (x_tape : Nat) (x_reader : Nat) (x_current : Nat) (x_images : Nat) (x_kept : Nat) (x_slots : Nat) (x_diary : Nat) (x_base : Nat) (x_trial : Nat) (x_plan : Nat) (x_orders : Nat) (x_unanswered : Nat) (t0 : Nat) (t1 : Nat) (t2 : Nat) (t3 : Nat) (t4 : Nat) (t5 : Nat) (t6 : Nat) (t7 : Nat) (t8 : Nat) (t9 : Nat)  : Met l yX8_count (.code yX8_count cX8_count 2 (some .int) :: ALLW) ({ frames := 0, cells := 0, slots := 0, locals := 0 }) (va_Pc [.ref h0, .int 3] (fun U => U.heap.size = sz ∧ va_P (dC, dI) vwCl [(h0, .inr (8, [.ref x_tape, .ref x_reader, .ref x_current, .ref x_images, .ref x_kept, .ref x_slots, .ref x_diary, .ref x_base, .ref x_trial, .ref x_plan, .ref x_orders, .ref x_unanswered, .int 0, .int 0, .int (-1)])), (x_current, .inr (7, [.int 0, .int 0, .int 0, .int 0, .int 0, .int 0, .int 0, .int 0, .ref t0, .ref t1, .ref t2, .ref t3, .ref t4, .ref t5, .ref t6, .ref t7, .ref t8, .ref t9]))] U.heap ∧ va_K (dC, dI) vwCl [] U ∧ va_D (fun _ => True) [(h0, .inr (8, [.ref x_tape, .ref x_reader, .ref x_current, .ref x_images, .ref x_kept, .ref x_slots, .ref x_diary, .ref x_base, .ref x_trial, .ref x_plan, .ref x_orders, .ref x_unanswered, .int 0, .int 0, .int (-1)])), (x_current, .inr (7, [.int 0, .int 0, .int 0, .int 0, .int 0, .int 0, .int 0, .int 0, .ref t0, .ref t1, .ref t2, .ref t3, .ref t4, .ref t5, .ref t6, .ref t7, .ref t8, .ref t9]))])) (va_Qi (fun (r : Int32) (_ : Unit) => r = 0) (fun (_ : Unit) (_ : State) => True) (va_A [(h0, .inr (8, [.ref x_tape, .ref x_reader, .ref x_current, .ref x_images, .ref x_kept, .ref x_slots, .ref x_diary, .ref x_base, .ref x_trial, .ref x_plan, .ref x_orders, .ref x_unanswered, .int 0, .int 0, .int (-1)])), (x_current, .inr (7, [.int 0, .int 0, .int 0, .int 0, .int 0, .int 0, .int 0, .int 0, .ref t0, .ref t1, .ref t2, .ref t3, .ref t4, .ref t5, .ref t6, .ref t7, .ref t8, .ref t9]))] sz)) 0 0 (va_A [(h0, .inr (8, [.ref x_tape, .ref x_reader, .ref x_current, .ref x_images, .ref x_kept, .ref x_slots, .ref x_diary, .ref x_base, .ref x_trial, .ref x_plan, .ref x_orders, .ref x_unanswered, .int 0, .int 0, .int (-1)])), (x_current, .inr (7, [.int 0, .int 0, .int 0, .int 0, .int 0, .int 0, .int 0, .int 0, .ref t0, .ref t1, .ref t2, .ref t3, .ref t4, .ref t5, .ref t6, .ref t7, .ref t8, .ref t9]))] sz) := by
  refine Met.ofW (cc := cX8_count) (maxL := 2) (ret := (some .int)) (by decide) rfl ?_
  intro p e s m args below meth c s₁ B hml hv
  obtain ⟨rfl, hsz, hP, hK, hD0⟩ := hv
  have hx := B.exec
  have hb := B.bytes
  have hr := B.returns
  have hts0 := atoms_spec (ws := (.code yX8_count cX8_count 2 (some .int) :: ALLW)) B.pre
  have hts := fun (w : Cond) (h : w ∈ ALLW) => hts0 w (List.mem_cons_of_mem _ h)
  have hown : s.vm.findClass RX8 = some m.cls := findClass_of_methodNamed B.named
  have hlocks := B.notSynchronized
  subst hsz
  have hD := hD0.self (sz := s.heap.size)
  generalize hAe : va_A [(h0, .inr (8, [.ref x_tape, .ref x_reader, .ref x_current, .ref x_images, .ref x_kept, .ref x_slots, .ref x_diary, .ref x_base, .ref x_trial, .ref x_plan, .ref x_orders, .ref x_unanswered, .int 0, .int 0, .int (-1)])), (x_current, .inr (7, [.int 0, .int 0, .int 0, .int 0, .int 0, .int 0, .int 0, .int 0, .ref t0, .ref t1, .ref t2, .ref t3, .ref t4, .ref t5, .ref t6, .ref t7, .ref t8, .ref t9]))] s.heap.size = A at hD ⊢
  have hA : ∀ q : Nat, s.heap.size ≤ q → A q := fun q h => by rw [← hAe]; exact Or.inr h
  have hS : va_S A s.heap s.heap [] := va_S.rf
  have hP : va_P (dC, dI) vwCl [(h0, .inr (8, [.ref x_tape, .ref x_reader, .ref x_current, .ref x_images, .ref x_kept, .ref x_slots, .ref x_diary, .ref x_base, .ref x_trial, .ref x_plan, .ref x_orders, .ref x_unanswered, .int 0, .int 0, .int (-1)])), (x_current, .inr (7, [.int 0, .int 0, .int 0, .int 0, .int 0, .int 0, .int 0, .int 0, .ref t0, .ref t1, .ref t2, .ref t3, .ref t4, .ref t5, .ref t6, .ref t7, .ref t8, .ref t9]))] s.heap := hP
  have hl := lv_entry ([.ref h0, .int 3]) (n := 2) (Nat.le_of_ble_eq_true rfl)
  rw [lg_entry_eq]
  generalize (lg_sl ([.ref h0, .int 3]) ++ List.replicate (2 - (lg_sl ([.ref h0, .int 3])).length) Slot.unset).toArray = ls at hl ⊢
  have hl : lv_has ls 2 [(0, .ref h0), (1, .int 3)] := hl
  refine lv_iload_n hx hb dX8_count_0 rfl (lv_at hl 1 rfl) ?_
  refine lv_tableIn (tgt := 76) hx hb dX8_count_1 (by decide) (by decide) rfl (by decide) ?_
  refine lv_aload_n hx hb dX8_count_76 rfl (lv_at hl 0 rfl) ?_
  refine va_get (D := (dC, dI)) (ci := 8) (v := .ref x_current) (C := RX8) (T := TX8) (N := 15) hx hb hts inA8 hown hK hP 0 rfl rfl 2 (by decide) (hts _ w_24) (fun _ h9 => h9) rfl dX8_count_77 ?_
  refine va_get (D := (dC, dI)) (ci := 7) (v := .int 0) (C := RX7) (T := TX7) (N := 18) hx hb hts inA7 hown hK hP 1 rfl rfl 1 (by decide) (hts _ w_843) (fun _ h9 => h9) rfl dX8_count_80 ?_
  exact W.iret (v := 0) hx hb hr (fun t ht hW => ⟨⟨0, (), rfl, rfl, trivial⟩, hS.F ht⟩) hS.2.2 dX8_count_83
set_option maxHeartbeats 4000000 in
set_option maxRecDepth 100000 in
theorem x_count4 (l : Launch) (dC : Nat → ClassId) (dI : Nat → Nat → Nat) (sz : Nat) (h0 : Nat) (x_tape : Nat) (x_reader : Nat) (x_current : Nat) (x_images : Nat) (x_kept : Nat) (x_slots : Nat) (x_diary : Nat) (x_base : Nat) (x_trial : Nat) (x_plan : Nat) (x_orders : Nat) (x_unanswered : Nat) (t0 : Nat) (t1 : Nat) (t2 : Nat) (t3 : Nat) (t4 : Nat) (t5 : Nat) (t6 : Nat) (t7 : Nat) (t8 : Nat) (t9 : Nat)  : Met l yX8_count (.code yX8_count cX8_count 2 (some .int) :: ALLW) ({ frames := 0, cells := 0, slots := 0, locals := 0 }) (va_Pc [.ref h0, .int 4] (fun U => U.heap.size = sz ∧ va_P (dC, dI) vwCl [(h0, .inr (8, [.ref x_tape, .ref x_reader, .ref x_current, .ref x_images, .ref x_kept, .ref x_slots, .ref x_diary, .ref x_base, .ref x_trial, .ref x_plan, .ref x_orders, .ref x_unanswered, .int 0, .int 0, .int (-1)])), (x_current, .inr (7, [.int 0, .int 0, .int 0, .int 0, .int 0, .int 0, .int 0, .int 0, .ref t0, .ref t1, .ref t2, .ref t3, .ref t4, .ref t5, .ref t6, .ref t7, .ref t8, .ref t9]))] U.heap ∧ va_K (dC, dI) vwCl [] U ∧ va_D (fun _ => True) [(h0, .inr (8, [.ref x_tape, .ref x_reader, .ref x_current, .ref x_images, .ref x_kept, .ref x_slots, .ref x_diary, .ref x_base, .ref x_trial, .ref x_plan, .ref x_orders, .ref x_unanswered, .int 0, .int 0, .int (-1)])), (x_current, .inr (7, [.int 0, .int 0, .int 0, .int 0, .int 0, .int 0, .int 0, .int 0, .ref t0, .ref t1, .ref t2, .ref t3, .ref t4, .ref t5, .ref t6, .ref t7, .ref t8, .ref t9]))])) (va_Qi (fun (r : Int32) (_ : Unit) => r = 0) (fun (_ : Unit) (_ : State) => True) (va_A [(h0, .inr (8, [.ref x_tape, .ref x_reader, .ref x_current, .ref x_images, .ref x_kept, .ref x_slots, .ref x_diary, .ref x_base, .ref x_trial, .ref x_plan, .ref x_orders, .ref x_unanswered, .int 0, .int 0, .int (-1)])), (x_current, .inr (7, [.int 0, .int 0, .int 0, .int 0, .int 0, .int 0, .int 0, .int 0, .ref t0, .ref t1, .ref t2, .ref t3, .ref t4, .ref t5, .ref t6, .ref t7, .ref t8, .ref t9]))] sz)) 0 0 (va_A [(h0, .inr (8, [.ref x_tape, .ref x_reader, .ref x_current, .ref x_images, .ref x_kept, .ref x_slots, .ref x_diary, .ref x_base, .ref x_trial, .ref x_plan, .ref x_orders, .ref x_unanswered, .int 0, .int 0, .int (-1)])), (x_current, .inr (7, [.int 0, .int 0, .int 0, .int 0, .int 0, .int 0, .int 0, .int 0, .ref t0, .ref t1, .ref t2, .ref t3, .ref t4, .ref t5, .ref t6, .ref t7, .ref t8, .ref t9]))] sz) := by
  refine Met.ofW (cc := cX8_count) (maxL := 2) (ret := (some .int)) (by decide) rfl ?_
  intro p e s m args below meth c s₁ B hml hv
  obtain ⟨rfl, hsz, hP, hK, hD0⟩ := hv
  have hx := B.exec
  have hb := B.bytes
  have hr := B.returns
  have hts0 := atoms_spec (ws := (.code yX8_count cX8_count 2 (some .int) :: ALLW)) B.pre
  have hts := fun (w : Cond) (h : w ∈ ALLW) => hts0 w (List.mem_cons_of_mem _ h)
  have hown : s.vm.findClass RX8 = some m.cls := findClass_of_methodNamed B.named
  have hlocks := B.notSynchronized
  subst hsz
  have hD := hD0.self (sz := s.heap.size)
  generalize hAe : va_A [(h0, .inr (8, [.ref x_tape, .ref x_reader, .ref x_current, .ref x_images, .ref x_kept, .ref x_slots, .ref x_diary, .ref x_base, .ref x_trial, .ref x_plan, .ref x_orders, .ref x_unanswered, .int 0, .int 0, .int (-1)])), (x_current, .inr (7, [.int 0, .int 0, .int 0, .int 0, .int 0, .int 0, .int 0, .int 0, .ref t0, .ref t1, .ref t2, .ref t3, .ref t4, .ref t5, .ref t6, .ref t7, .ref t8, .ref t9]))] s.heap.size = A at hD ⊢
  have hA : ∀ q : Nat, s.heap.size ≤ q → A q := fun q h => by rw [← hAe]; exact Or.inr h
  have hS : va_S A s.heap s.heap [] := va_S.rf
  have hP : va_P (dC, dI) vwCl [(h0, .inr (8, [.ref x_tape, .ref x_reader, .ref x_current, .ref x_images, .ref x_kept, .ref x_slots, .ref x_diary, .ref x_base, .ref x_trial, .ref x_plan, .ref x_orders, .ref x_unanswered, .int 0, .int 0, .int (-1)])), (x_current, .inr (7, [.int 0, .int 0, .int 0, .int 0, .int 0, .int 0, .int 0, .int 0, .ref t0, .ref t1, .ref t2, .ref t3, .ref t4, .ref t5, .ref t6, .ref t7, .ref t8, .ref t9]))] s.heap := hP
  have hl := lv_entry ([.ref h0, .int 4]) (n := 2) (Nat.le_of_ble_eq_true rfl)
  rw [lg_entry_eq]
  generalize (lg_sl ([.ref h0, .int 4]) ++ List.replicate (2 - (lg_sl ([.ref h0, .int 4])).length) Slot.unset).toArray = ls at hl ⊢
  have hl : lv_has ls 2 [(0, .ref h0), (1, .int 4)] := hl
  refine lv_iload_n hx hb dX8_count_0 rfl (lv_at hl 1 rfl) ?_
  refine lv_tableIn (tgt := 84) hx hb dX8_count_1 (by decide) (by decide) rfl (by decide) ?_
  refine lv_aload_n hx hb dX8_count_84 rfl (lv_at hl 0 rfl) ?_
  refine va_get (D := (dC, dI)) (ci := 8) (v := .ref x_current) (C := RX8) (T := TX8) (N := 15) hx hb hts inA8 hown hK hP 0 rfl rfl 2 (by decide) (hts _ w_24) (fun _ h9 => h9) rfl dX8_count_85 ?_
  refine va_get (D := (dC, dI)) (ci := 7) (v := .int 0) (C := RX7) (T := TX7) (N := 18) hx hb hts inA7 hown hK hP 1 rfl rfl 2 (by decide) (hts _ w_816) (fun _ h9 => h9) rfl dX8_count_88 ?_
  exact W.iret (v := 0) hx hb hr (fun t ht hW => ⟨⟨0, (), rfl, rfl, trivial⟩, hS.F ht⟩) hS.2.2 dX8_count_91
set_option maxHeartbeats 4000000 in
set_option maxRecDepth 100000 in
theorem x_count5 (l : Launch) (dC : Nat → ClassId) (dI : Nat → Nat → Nat) (sz : Nat) (h0 : Nat) (x_tape : Nat) (x_reader : Nat) (x_current : Nat) (x_images : Nat) (x_kept : Nat) (x_slots : Nat) (x_diary : Nat) (x_base : Nat) (x_trial : Nat) (x_plan : Nat) (x_orders : Nat) (x_unanswered : Nat) (t0 : Nat) (t1 : Nat) (t2 : Nat) (t3 : Nat) (t4 : Nat) (t5 : Nat) (t6 : Nat) (t7 : Nat) (t8 : Nat) (t9 : Nat)  : Met l yX8_count (.code yX8_count cX8_count 2 (some .int) :: ALLW) ({ frames := 0, cells := 0, slots := 0, locals := 0 }) (va_Pc [.ref h0, .int 5] (fun U => U.heap.size = sz ∧ va_P (dC, dI) vwCl [(h0, .inr (8, [.ref x_tape, .ref x_reader, .ref x_current, .ref x_images, .ref x_kept, .ref x_slots, .ref x_diary, .ref x_base, .ref x_trial, .ref x_plan, .ref x_orders, .ref x_unanswered, .int 0, .int 0, .int (-1)])), (x_current, .inr (7, [.int 0, .int 0, .int 0, .int 0, .int 0, .int 0, .int 0, .int 0, .ref t0, .ref t1, .ref t2, .ref t3, .ref t4, .ref t5, .ref t6, .ref t7, .ref t8, .ref t9]))] U.heap ∧ va_K (dC, dI) vwCl [] U ∧ va_D (fun _ => True) [(h0, .inr (8, [.ref x_tape, .ref x_reader, .ref x_current, .ref x_images, .ref x_kept, .ref x_slots, .ref x_diary, .ref x_base, .ref x_trial, .ref x_plan, .ref x_orders, .ref x_unanswered, .int 0, .int 0, .int (-1)])), (x_current, .inr (7, [.int 0, .int 0, .int 0, .int 0, .int 0, .int 0, .int 0, .int 0, .ref t0, .ref t1, .ref t2, .ref t3, .ref t4, .ref t5, .ref t6, .ref t7, .ref t8, .ref t9]))])) (va_Qi (fun (r : Int32) (_ : Unit) => r = 0) (fun (_ : Unit) (_ : State) => True) (va_A [(h0, .inr (8, [.ref x_tape, .ref x_reader, .ref x_current, .ref x_images, .ref x_kept, .ref x_slots, .ref x_diary, .ref x_base, .ref x_trial, .ref x_plan, .ref x_orders, .ref x_unanswered, .int 0, .int 0, .int (-1)])), (x_current, .inr (7, [.int 0, .int 0, .int 0, .int 0, .int 0, .int 0, .int 0, .int 0, .ref t0, .ref t1, .ref t2, .ref t3, .ref t4, .ref t5, .ref t6, .ref t7, .ref t8, .ref t9]))] sz)) 0 0 (va_A [(h0, .inr (8, [.ref x_tape, .ref x_reader, .ref x_current, .ref x_images, .ref x_kept, .ref x_slots, .ref x_diary, .ref x_base, .ref x_trial, .ref x_plan, .ref x_orders, .ref x_unanswered, .int 0, .int 0, .int (-1)])), (x_current, .inr (7, [.int 0, .int 0, .int 0, .int 0, .int 0, .int 0, .int 0, .int 0, .ref t0, .ref t1, .ref t2, .ref t3, .ref t4, .ref t5, .ref t6, .ref t7, .ref t8, .ref t9]))] sz) := by
  refine Met.ofW (cc := cX8_count) (maxL := 2) (ret := (some .int)) (by decide) rfl ?_
  intro p e s m args below meth c s₁ B hml hv
  obtain ⟨rfl, hsz, hP, hK, hD0⟩ := hv
  have hx := B.exec
  have hb := B.bytes
  have hr := B.returns
  have hts0 := atoms_spec (ws := (.code yX8_count cX8_count 2 (some .int) :: ALLW)) B.pre
  have hts := fun (w : Cond) (h : w ∈ ALLW) => hts0 w (List.mem_cons_of_mem _ h)
  have hown : s.vm.findClass RX8 = some m.cls := findClass_of_methodNamed B.named
  have hlocks := B.notSynchronized
  subst hsz
  have hD := hD0.self (sz := s.heap.size)
  generalize hAe : va_A [(h0, .inr (8, [.ref x_tape, .ref x_reader, .ref x_current, .ref x_images, .ref x_kept, .ref x_slots, .ref x_diary, .ref x_base, .ref x_trial, .ref x_plan, .ref x_orders, .ref x_unanswered, .int 0, .int 0, .int (-1)])), (x_current, .inr (7, [.int 0, .int 0, .int 0, .int 0, .int 0, .int 0, .int 0, .int 0, .ref t0, .ref t1, .ref t2, .ref t3, .ref t4, .ref t5, .ref t6, .ref t7, .ref t8, .ref t9]))] s.heap.size = A at hD ⊢
  have hA : ∀ q : Nat, s.heap.size ≤ q → A q := fun q h => by rw [← hAe]; exact Or.inr h
  have hS : va_S A s.heap s.heap [] := va_S.rf
  have hP : va_P (dC, dI) vwCl [(h0, .inr (8, [.ref x_tape, .ref x_reader, .ref x_current, .ref x_images, .ref x_kept, .ref x_slots, .ref x_diary, .ref x_base, .ref x_trial, .ref x_plan, .ref x_orders, .ref x_unanswered, .int 0, .int 0, .int (-1)])), (x_current, .inr (7, [.int 0, .int 0, .int 0, .int 0, .int 0, .int 0, .int 0, .int 0, .ref t0, .ref t1, .ref t2, .ref t3, .ref t4, .ref t5, .ref t6, .ref t7, .ref t8, .ref t9]))] s.heap := hP
  have hl := lv_entry ([.ref h0, .int 5]) (n := 2) (Nat.le_of_ble_eq_true rfl)
  rw [lg_entry_eq]
  generalize (lg_sl ([.ref h0, .int 5]) ++ List.replicate (2 - (lg_sl ([.ref h0, .int 5])).length) Slot.unset).toArray = ls at hl ⊢
  have hl : lv_has ls 2 [(0, .ref h0), (1, .int 5)] := hl
  refine lv_iload_n hx hb dX8_count_0 rfl (lv_at hl 1 rfl) ?_
  refine lv_tableIn (tgt := 92) hx hb dX8_count_1 (by decide) (by decide) rfl (by decide) ?_
  refine lv_aload_n hx hb dX8_count_92 rfl (lv_at hl 0 rfl) ?_
  refine va_get (D := (dC, dI)) (ci := 8) (v := .ref x_current) (C := RX8) (T := TX8) (N := 15) hx hb hts inA8 hown hK hP 0 rfl rfl 2 (by decide) (hts _ w_24) (fun _ h9 => h9) rfl dX8_count_93 ?_
  refine va_get (D := (dC, dI)) (ci := 7) (v := .int 0) (C := RX7) (T := TX7) (N := 18) hx hb hts inA7 hown hK hP 1 rfl rfl 4 (by decide) (hts _ w_233) (fun _ h9 => h9) rfl dX8_count_96 ?_
  exact W.iret (v := 0) hx hb hr (fun t ht hW => ⟨⟨0, (), rfl, rfl, trivial⟩, hS.F ht⟩) hS.2.2 dX8_count_99
set_option maxHeartbeats 4000000 in
set_option maxRecDepth 100000 in
theorem x_count6 (l : Launch) (dC : Nat → ClassId) (dI : Nat → Nat → Nat) (sz : Nat) (h0 : Nat) (x_tape : Nat) (x_reader : Nat) (x_current : Nat) (x_images : Nat) (x_kept : Nat) (x_slots : Nat) (x_diary : Nat) (x_base : Nat) (x_trial : Nat) (x_plan : Nat) (x_orders : Nat) (x_unanswered : Nat) (tb : Nat)  : Met l yX8_count (.code yX8_count cX8_count 2 (some .int) :: ALLW) ({ frames := 0, cells := 0, slots := 0, locals := 0 }) (va_Pc [.ref h0, .int 6] (fun U => U.heap.size = sz ∧ va_P (dC, dI) vwCl [(h0, .inr (8, [.ref x_tape, .ref x_reader, .ref x_current, .ref x_images, .ref x_kept, .ref x_slots, .ref x_diary, .ref x_base, .ref x_trial, .ref x_plan, .ref x_orders, .ref x_unanswered, .int 0, .int 0, .int (-1)])), (x_tape, .inr (6, [.ref tb, .int 0]))] U.heap ∧ va_K (dC, dI) vwCl [] U ∧ va_D (fun _ => True) [(h0, .inr (8, [.ref x_tape, .ref x_reader, .ref x_current, .ref x_images, .ref x_kept, .ref x_slots, .ref x_diary, .ref x_base, .ref x_trial, .ref x_plan, .ref x_orders, .ref x_unanswered, .int 0, .int 0, .int (-1)])), (x_tape, .inr (6, [.ref tb, .int 0]))])) (va_Qi (fun (r : Int32) (_ : Unit) => r = 0) (fun (_ : Unit) (_ : State) => True) (va_A [(h0, .inr (8, [.ref x_tape, .ref x_reader, .ref x_current, .ref x_images, .ref x_kept, .ref x_slots, .ref x_diary, .ref x_base, .ref x_trial, .ref x_plan, .ref x_orders, .ref x_unanswered, .int 0, .int 0, .int (-1)])), (x_tape, .inr (6, [.ref tb, .int 0]))] sz)) 0 0 (va_A [(h0, .inr (8, [.ref x_tape, .ref x_reader, .ref x_current, .ref x_images, .ref x_kept, .ref x_slots, .ref x_diary, .ref x_base, .ref x_trial, .ref x_plan, .ref x_orders, .ref x_unanswered, .int 0, .int 0, .int (-1)])), (x_tape, .inr (6, [.ref tb, .int 0]))] sz) := by
  refine Met.ofW (cc := cX8_count) (maxL := 2) (ret := (some .int)) (by decide) rfl ?_
  intro p e s m args below meth c s₁ B hml hv
  obtain ⟨rfl, hsz, hP, hK, hD0⟩ := hv
  have hx := B.exec
  have hb := B.bytes
  have hr := B.returns
  have hts0 := atoms_spec (ws := (.code yX8_count cX8_count 2 (some .int) :: ALLW)) B.pre
  have hts := fun (w : Cond) (h : w ∈ ALLW) => hts0 w (List.mem_cons_of_mem _ h)
  have hown : s.vm.findClass RX8 = some m.cls := findClass_of_methodNamed B.named
  have hlocks := B.notSynchronized
  subst hsz
  have hD := hD0.self (sz := s.heap.size)
  generalize hAe : va_A [(h0, .inr (8, [.ref x_tape, .ref x_reader, .ref x_current, .ref x_images, .ref x_kept, .ref x_slots, .ref x_diary, .ref x_base, .ref x_trial, .ref x_plan, .ref x_orders, .ref x_unanswered, .int 0, .int 0, .int (-1)])), (x_tape, .inr (6, [.ref tb, .int 0]))] s.heap.size = A at hD ⊢
  have hA : ∀ q : Nat, s.heap.size ≤ q → A q := fun q h => by rw [← hAe]; exact Or.inr h
  have hS : va_S A s.heap s.heap [] := va_S.rf
  have hP : va_P (dC, dI) vwCl [(h0, .inr (8, [.ref x_tape, .ref x_reader, .ref x_current, .ref x_images, .ref x_kept, .ref x_slots, .ref x_diary, .ref x_base, .ref x_trial, .ref x_plan, .ref x_orders, .ref x_unanswered, .int 0, .int 0, .int (-1)])), (x_tape, .inr (6, [.ref tb, .int 0]))] s.heap := hP
  have hl := lv_entry ([.ref h0, .int 6]) (n := 2) (Nat.le_of_ble_eq_true rfl)
  rw [lg_entry_eq]
  generalize (lg_sl ([.ref h0, .int 6]) ++ List.replicate (2 - (lg_sl ([.ref h0, .int 6])).length) Slot.unset).toArray = ls at hl ⊢
  have hl : lv_has ls 2 [(0, .ref h0), (1, .int 6)] := hl
  refine lv_iload_n hx hb dX8_count_0 rfl (lv_at hl 1 rfl) ?_
  refine lv_tableIn (tgt := 100) hx hb dX8_count_1 (by decide) (by decide) rfl (by decide) ?_
  refine lv_aload_n hx hb dX8_count_100 rfl (lv_at hl 0 rfl) ?_
  refine va_get (D := (dC, dI)) (ci := 8) (v := .ref x_tape) (C := RX8) (T := TX8) (N := 15) hx hb hts inA8 hown hK hP 0 rfl rfl 0 (by decide) (hts _ w_16) (fun _ h9 => h9) rfl dX8_count_101 ?_
  refine va_get (D := (dC, dI)) (ci := 6) (v := .int 0) (C := RX6) (T := TX6) (N := 2) hx hb hts inA6 hown hK hP 1 rfl rfl 1 (by decide) (hts _ w_198) (fun _ h9 => h9) rfl dX8_count_104 ?_
  exact W.iret (v := 0) hx hb hr (fun t ht hW => ⟨⟨0, (), rfl, rfl, trivial⟩, hS.F ht⟩) hS.2.2 dX8_count_107
set_option maxHeartbeats 4000000 in
set_option maxRecDepth 100000 in
theorem x_count7 (l : Launch) (dC : Nat → ClassId) (dI : Nat → Nat → Nat) (sz : Nat) (h0 : Nat) (x_tape : Nat) (x_reader : Nat) (x_current : Nat) (x_images : Nat) (x_kept : Nat) (x_slots : Nat) (x_diary : Nat) (x_base : Nat) (x_trial : Nat) (x_plan : Nat) (x_orders : Nat) (x_unanswered : Nat) (t0 : Nat) (t1 : Nat) (t2 : Nat) (t3 : Nat) (t4 : Nat) (t5 : Nat) (t6 : Nat) (t7 : Nat) (t8 : Nat) (t9 : Nat)  : Met l yX8_count (.code yX8_count cX8_count 2 (some .int) :: ALLW) ({ frames := 0, cells := 0, slots := 0, locals := 0 }) (va_Pc [.ref h0, .int 7] (fun U => U.heap.size = sz ∧ va_P (dC, dI) vwCl [(h0, .inr (8, [.ref x_tape, .ref x_reader, .ref x_current, .ref x_images, .ref x_kept, .ref x_slots, .ref x_diary, .ref x_base, .ref x_trial, .ref x_plan, .ref x_orders, .ref x_unanswered, .int 0, .int 0, .int (-1)])), (x_current, .inr (7, [.int 0, .int 0, .int 0, .int 0, .int 0, .int 0, .int 0, .int 0, .ref t0, .ref t1, .ref t2, .ref t3, .ref t4, .ref t5, .ref t6, .ref t7, .ref t8, .ref t9]))] U.heap ∧ va_K (dC, dI) vwCl [] U ∧ va_D (fun _ => True) [(h0, .inr (8, [.ref x_tape, .ref x_reader, .ref x_current, .ref x_images, .ref x_kept, .ref x_slots, .ref x_diary, .ref x_base, .ref x_trial, .ref x_plan, .ref x_orders, .ref x_unanswered, .int 0, .int 0, .int (-1)])), (x_current, .inr (7, [.int 0, .int 0, .int 0, .int 0, .int 0, .int 0, .int 0, .int 0, .ref t0, .ref t1, .ref t2, .ref t3, .ref t4, .ref t5, .ref t6, .ref t7, .ref t8, .ref t9]))])) (va_Qi (fun (r : Int32) (_ : Unit) => r = 0) (fun (_ : Unit) (_ : State) => True) (va_A [(h0, .inr (8, [.ref x_tape, .ref x_reader, .ref x_current, .ref x_images, .ref x_kept, .ref x_slots, .ref x_diary, .ref x_base, .ref x_trial, .ref x_plan, .ref x_orders, .ref x_unanswered, .int 0, .int 0, .int (-1)])), (x_current, .inr (7, [.int 0, .int 0, .int 0, .int 0, .int 0, .int 0, .int 0, .int 0, .ref t0, .ref t1, .ref t2, .ref t3, .ref t4, .ref t5, .ref t6, .ref t7, .ref t8, .ref t9]))] sz)) 0 0 (va_A [(h0, .inr (8, [.ref x_tape, .ref x_reader, .ref x_current, .ref x_images, .ref x_kept, .ref x_slots, .ref x_diary, .ref x_base, .ref x_trial, .ref x_plan, .ref x_orders, .ref x_unanswered, .int 0, .int 0, .int (-1)])), (x_current, .inr (7, [.int 0, .int 0, .int 0, .int 0, .int 0, .int 0, .int 0, .int 0, .ref t0, .ref t1, .ref t2, .ref t3, .ref t4, .ref t5, .ref t6, .ref t7, .ref t8, .ref t9]))] sz) := by
  refine Met.ofW (cc := cX8_count) (maxL := 2) (ret := (some .int)) (by decide) rfl ?_
  intro p e s m args below meth c s₁ B hml hv
  obtain ⟨rfl, hsz, hP, hK, hD0⟩ := hv
  have hx := B.exec
  have hb := B.bytes
  have hr := B.returns
  have hts0 := atoms_spec (ws := (.code yX8_count cX8_count 2 (some .int) :: ALLW)) B.pre
  have hts := fun (w : Cond) (h : w ∈ ALLW) => hts0 w (List.mem_cons_of_mem _ h)
  have hown : s.vm.findClass RX8 = some m.cls := findClass_of_methodNamed B.named
  have hlocks := B.notSynchronized
  subst hsz
  have hD := hD0.self (sz := s.heap.size)
  generalize hAe : va_A [(h0, .inr (8, [.ref x_tape, .ref x_reader, .ref x_current, .ref x_images, .ref x_kept, .ref x_slots, .ref x_diary, .ref x_base, .ref x_trial, .ref x_plan, .ref x_orders, .ref x_unanswered, .int 0, .int 0, .int (-1)])), (x_current, .inr (7, [.int 0, .int 0, .int 0, .int 0, .int 0, .int 0, .int 0, .int 0, .ref t0, .ref t1, .ref t2, .ref t3, .ref t4, .ref t5, .ref t6, .ref t7, .ref t8, .ref t9]))] s.heap.size = A at hD ⊢
  have hA : ∀ q : Nat, s.heap.size ≤ q → A q := fun q h => by rw [← hAe]; exact Or.inr h
  have hS : va_S A s.heap s.heap [] := va_S.rf
  have hP : va_P (dC, dI) vwCl [(h0, .inr (8, [.ref x_tape, .ref x_reader, .ref x_current, .ref x_images, .ref x_kept, .ref x_slots, .ref x_diary, .ref x_base, .ref x_trial, .ref x_plan, .ref x_orders, .ref x_unanswered, .int 0, .int 0, .int (-1)])), (x_current, .inr (7, [.int 0, .int 0, .int 0, .int 0, .int 0, .int 0, .int 0, .int 0, .ref t0, .ref t1, .ref t2, .ref t3, .ref t4, .ref t5, .ref t6, .ref t7, .ref t8, .ref t9]))] s.heap := hP
  have hl := lv_entry ([.ref h0, .int 7]) (n := 2) (Nat.le_of_ble_eq_true rfl)
  rw [lg_entry_eq]
  generalize (lg_sl ([.ref h0, .int 7]) ++ List.replicate (2 - (lg_sl ([.ref h0, .int 7])).length) Slot.unset).toArray = ls at hl ⊢
  have hl : lv_has ls 2 [(0, .ref h0), (1, .int 7)] := hl
  refine lv_iload_n hx hb dX8_count_0 rfl (lv_at hl 1 rfl) ?_
  refine lv_tableIn (tgt := 108) hx hb dX8_count_1 (by decide) (by decide) rfl (by decide) ?_
  refine lv_aload_n hx hb dX8_count_108 rfl (lv_at hl 0 rfl) ?_
  refine va_get (D := (dC, dI)) (ci := 8) (v := .ref x_current) (C := RX8) (T := TX8) (N := 15) hx hb hts inA8 hown hK hP 0 rfl rfl 2 (by decide) (hts _ w_24) (fun _ h9 => h9) rfl dX8_count_109 ?_
  refine va_get (D := (dC, dI)) (ci := 7) (v := .int 0) (C := RX7) (T := TX7) (N := 18) hx hb hts inA7 hown hK hP 1 rfl rfl 3 (by decide) (hts _ w_1030) (fun _ h9 => h9) rfl dX8_count_112 ?_
  exact W.iret (v := 0) hx hb hr (fun t ht hW => ⟨⟨0, (), rfl, rfl, trivial⟩, hS.F ht⟩) hS.2.2 dX8_count_115
set_option maxHeartbeats 4000000 in
set_option maxRecDepth 100000 in
theorem x_count8 (l : Launch) (dC : Nat → ClassId) (dI : Nat → Nat → Nat) (sz : Nat) (h0 : Nat) (x_tape : Nat) (x_reader : Nat) (x_current : Nat) (x_images : Nat) (x_kept : Nat) (x_slots : Nat) (x_diary : Nat) (x_base : Nat) (x_trial : Nat) (x_plan : Nat) (x_orders : Nat) (x_unanswered : Nat) (s0 : Nat) (s1 : Nat) (s2 : Nat) (s3 : Nat) (y0 : Nat) (y1 : Nat) (y2 : Nat) (y3 : Nat) (zk : ClassId)  : Met l yX8_count (.code yX8_count cX8_count 2 (some .int) :: ALLW) ({ frames := 1, cells := 0, slots := 0, locals := 22 }) (va_Pc [.ref h0, .int 8] (fun U => U.heap.size = sz ∧ va_P (dC, dI) vwCl [(h0, .inr (8, [.ref x_tape, .ref x_reader, .ref x_current, .ref x_images, .ref x_kept, .ref x_slots, .ref x_diary, .ref x_base, .ref x_trial, .ref x_plan, .ref x_orders, .ref x_unanswered, .int 0, .int 0, .int (-1)])), (x_slots, .inl (zk, 4, .inr (.inr (.inr (.inr (va_up (va_up (va_up (va_up (fun _ => none) 0 (some s0)) 1 (some s1)) 2 (some s2)) 3 (some s3))))))), (s0, .inr (5, [.ref y0, .int 0, .int 0, .int 0])), (s1, .inr (5, [.ref y1, .int 0, .int 0, .int 0])), (s2, .inr (5, [.ref y2, .int 0, .int 0, .int 0])), (s3, .inr (5, [.ref y3, .int 0, .int 0, .int 0]))] U.heap ∧ va_K (dC, dI) vwCl [(zk, .object RX5)] U ∧ va_D (fun _ => True) [(h0, .inr (8, [.ref x_tape, .ref x_reader, .ref x_current, .ref x_images, .ref x_kept, .ref x_slots, .ref x_diary, .ref x_base, .ref x_trial, .ref x_plan, .ref x_orders, .ref x_unanswered, .int 0, .int 0, .int (-1)])), (x_slots, .inl (zk, 4, .inr (.inr (.inr (.inr (va_up (va_up (va_up (va_up (fun _ => none) 0 (some s0)) 1 (some s1)) 2 (some s2)) 3 (some s3))))))), (s0, .inr (5, [.ref y0, .int 0, .int 0, .int 0])), (s1, .inr (5, [.ref y1, .int 0, .int 0, .int 0])), (s2, .inr (5, [.ref y2, .int 0, .int 0, .int 0])), (s3, .inr (5, [.ref y3, .int 0, .int 0, .int 0]))])) (va_Qi (fun (r : Int32) (_ : Unit) => r = 0) (fun (_ : Unit) (_ : State) => True) (va_A [(h0, .inr (8, [.ref x_tape, .ref x_reader, .ref x_current, .ref x_images, .ref x_kept, .ref x_slots, .ref x_diary, .ref x_base, .ref x_trial, .ref x_plan, .ref x_orders, .ref x_unanswered, .int 0, .int 0, .int (-1)])), (x_slots, .inl (zk, 4, .inr (.inr (.inr (.inr (va_up (va_up (va_up (va_up (fun _ => none) 0 (some s0)) 1 (some s1)) 2 (some s2)) 3 (some s3))))))), (s0, .inr (5, [.ref y0, .int 0, .int 0, .int 0])), (s1, .inr (5, [.ref y1, .int 0, .int 0, .int 0])), (s2, .inr (5, [.ref y2, .int 0, .int 0, .int 0])), (s3, .inr (5, [.ref y3, .int 0, .int 0, .int 0]))] sz)) 0 0 (va_A [(h0, .inr (8, [.ref x_tape, .ref x_reader, .ref x_current, .ref x_images, .ref x_kept, .ref x_slots, .ref x_diary, .ref x_base, .ref x_trial, .ref x_plan, .ref x_orders, .ref x_unanswered, .int 0, .int 0, .int (-1)])), (x_slots, .inl (zk, 4, .inr (.inr (.inr (.inr (va_up (va_up (va_up (va_up (fun _ => none) 0 (some s0)) 1 (some s1)) 2 (some s2)) 3 (some s3))))))), (s0, .inr (5, [.ref y0, .int 0, .int 0, .int 0])), (s1, .inr (5, [.ref y1, .int 0, .int 0, .int 0])), (s2, .inr (5, [.ref y2, .int 0, .int 0, .int 0])), (s3, .inr (5, [.ref y3, .int 0, .int 0, .int 0]))] sz) := by
  refine Met.ofW (cc := cX8_count) (maxL := 2) (ret := (some .int)) (by decide) rfl ?_
  intro p e s m args below meth c s₁ B hml hv
  obtain ⟨rfl, hsz, hP, hK, hD0⟩ := hv
  have hx := B.exec
  have hb := B.bytes
  have hr := B.returns
  have hts0 := atoms_spec (ws := (.code yX8_count cX8_count 2 (some .int) :: ALLW)) B.pre
  have hts := fun (w : Cond) (h : w ∈ ALLW) => hts0 w (List.mem_cons_of_mem _ h)
  have hown : s.vm.findClass RX8 = some m.cls := findClass_of_methodNamed B.named
  have hlocks := B.notSynchronized
  subst hsz
  have hD := hD0.self (sz := s.heap.size)
  generalize hAe : va_A [(h0, .inr (8, [.ref x_tape, .ref x_reader, .ref x_current, .ref x_images, .ref x_kept, .ref x_slots, .ref x_diary, .ref x_base, .ref x_trial, .ref x_plan, .ref x_orders, .ref x_unanswered, .int 0, .int 0, .int (-1)])), (x_slots, .inl (zk, 4, .inr (.inr (.inr (.inr (va_up (va_up (va_up (va_up (fun _ => none) 0 (some s0)) 1 (some s1)) 2 (some s2)) 3 (some s3))))))), (s0, .inr (5, [.ref y0, .int 0, .int 0, .int 0])), (s1, .inr (5, [.ref y1, .int 0, .int 0, .int 0])), (s2, .inr (5, [.ref y2, .int 0, .int 0, .int 0])), (s3, .inr (5, [.ref y3, .int 0, .int 0, .int 0]))] s.heap.size = A at hD ⊢
  have hA : ∀ q : Nat, s.heap.size ≤ q → A q := fun q h => by rw [← hAe]; exact Or.inr h
  have hS : va_S A s.heap s.heap [] := va_S.rf
  have hP : va_P (dC, dI) vwCl [(h0, .inr (8, [.ref x_tape, .ref x_reader, .ref x_current, .ref x_images, .ref x_kept, .ref x_slots, .ref x_diary, .ref x_base, .ref x_trial, .ref x_plan, .ref x_orders, .ref x_unanswered, .int 0, .int 0, .int (-1)])), (x_slots, .inl (zk, 4, .inr (.inr (.inr (.inr (va_up (va_up (va_up (va_up (fun _ => none) 0 (some s0)) 1 (some s1)) 2 (some s2)) 3 (some s3))))))), (s0, .inr (5, [.ref y0, .int 0, .int 0, .int 0])), (s1, .inr (5, [.ref y1, .int 0, .int 0, .int 0])), (s2, .inr (5, [.ref y2, .int 0, .int 0, .int 0])), (s3, .inr (5, [.ref y3, .int 0, .int 0, .int 0]))] s.heap := hP
  have hl := lv_entry ([.ref h0, .int 8]) (n := 2) (Nat.le_of_ble_eq_true rfl)
  rw [lg_entry_eq]
  generalize (lg_sl ([.ref h0, .int 8]) ++ List.replicate (2 - (lg_sl ([.ref h0, .int 8])).length) Slot.unset).toArray = ls at hl ⊢
  have hl : lv_has ls 2 [(0, .ref h0), (1, .int 8)] := hl
  refine lv_iload_n hx hb dX8_count_0 rfl (lv_at hl 1 rfl) ?_
  refine lv_tableIn (tgt := 116) hx hb dX8_count_1 (by decide) (by decide) rfl (by decide) ?_
  refine lv_aload_n hx hb dX8_count_116 rfl (lv_at hl 0 rfl) ?_
  have hPc := hP.sub (ws' := [(h0, .inr (8, [.ref x_tape, .ref x_reader, .ref x_current, .ref x_images, .ref x_kept, .ref x_slots, .ref x_diary, .ref x_base, .ref x_trial, .ref x_plan, .ref x_orders, .ref x_unanswered, .int 0, .int 0, .int (-1)])), (x_slots, .inl (zk, 4, .inr (.inr (.inr (.inr (va_up (va_up (va_up (va_up (fun _ => none) 0 (some s0)) 1 (some s1)) 2 (some s2)) 3 (some s3))))))), (s0, .inr (5, [.ref y0, .int 0, .int 0, .int 0])), (s1, .inr (5, [.ref y1, .int 0, .int 0, .int 0])), (s2, .inr (5, [.ref y2, .int 0, .int 0, .int 0])), (s3, .inr (5, [.ref y3, .int 0, .int 0, .int 0]))]) [0, 1, 2, 3, 4, 5] rfl
  have hDc := hD.sub (ws' := [(h0, .inr (8, [.ref x_tape, .ref x_reader, .ref x_current, .ref x_images, .ref x_kept, .ref x_slots, .ref x_diary, .ref x_base, .ref x_trial, .ref x_plan, .ref x_orders, .ref x_unanswered, .int 0, .int 0, .int (-1)])), (x_slots, .inl (zk, 4, .inr (.inr (.inr (.inr (va_up (va_up (va_up (va_up (fun _ => none) 0 (some s0)) 1 (some s1)) 2 (some s2)) 3 (some s3))))))), (s0, .inr (5, [.ref y0, .int 0, .int 0, .int 0])), (s1, .inr (5, [.ref y1, .int 0, .int 0, .int 0])), (s2, .inr (5, [.ref y2, .int 0, .int 0, .int 0])), (s3, .inr (5, [.ref y3, .int 0, .int 0, .int 0]))]) [0, 1, 2, 3, 4, 5] (by decide) rfl
  have hKc := hK.sub (tys' := [(zk, .object RX5)]) [0] rfl
  have hFc := va_free (wc := [(h0, .inr (8, [.ref x_tape, .ref x_reader, .ref x_current, .ref x_images, .ref x_kept, .ref x_slots, .ref x_diary, .ref x_base, .ref x_trial, .ref x_plan, .ref x_orders, .ref x_unanswered, .int 0, .int 0, .int (-1)])), (x_slots, .inl (zk, 4, .inr (.inr (.inr (.inr (va_up (va_up (va_up (va_up (fun _ => none) 0 (some s0)) 1 (some s1)) 2 (some s2)) 3 (some s3))))))), (s0, .inr (5, [.ref y0, .int 0, .int 0, .int 0])), (s1, .inr (5, [.ref y1, .int 0, .int 0, .int 0])), (s2, .inr (5, [.ref y2, .int 0, .int 0, .int 0])), (s3, .inr (5, [.ref y3, .int 0, .int 0, .int 0]))]) hD hS hA [0, 1, 2, 3, 4, 5] rfl
  refine va_calli (va_runV (As := []) (rest := []) ⟨hx, hb, hml, hown, hts⟩ (c_usedSlots l dC dI s.heap.size h0 x_tape x_reader x_current x_images x_kept x_slots x_diary x_base x_trial x_plan x_orders x_unanswered s0 s1 s2 s3 y0 y1 y2 y3 zk ) (cwV 0 hts (goodV w_1304 w_1305 w_1306 w_2 w_1307) rfl rfl rfl hdV_X8_usedSlots ⟨Nat.le_of_ble_eq_true rfl, Nat.le_of_ble_eq_true rfl⟩) ⟨fun a U g mk q => by obtain ⟨q0, q1, qP, qK, qD⟩ := q; exact ⟨q0, q1, qP, va_K.moved (u := U) (U := U.calling g mk a) (Vm.Alike.refl U.vm) qK, qD⟩, va_recv hKc hPc (ci := 8) (q0 := 0) rfl rfl, fun U hU hW => ⟨rfl, by rw [hU], by rw [hU]; exact hPc, va_K.moved hW.alike hKc, hDc.weaken (fun _ _ _ _ => trivial)⟩⟩ rfl rfl hl.1 rfl (lv_room (Nat.le_of_ble_eq_true rfl)) dX8_count_117 ⟨Nat.le_of_ble_eq_true rfl, Nat.le_of_ble_eq_true rfl⟩) hS (fun q _ h => hFc q h) hFc (fun r_1 u t H1 locs ht hvm hw hB hz1 hk1 hS => ?_)
  obtain ⟨hP1, hK1, hD1⟩ := hB
  rw [ht] at hP1
  have hK1 := va_K.moved hvm.symm hK1
  obtain ⟨hP, hD⟩ := va_join (wr := []) (w1 := [(h0, .inr (8, [.ref x_tape, .ref x_reader, .ref x_current, .ref x_images, .ref x_kept, .ref x_slots, .ref x_diary, .ref x_base, .ref x_trial, .ref x_plan, .ref x_orders, .ref x_unanswered, .int 0, .int 0, .int (-1)])), (x_slots, .inl (zk, 4, .inr (.inr (.inr (.inr (va_up (va_up (va_up (va_up (fun _ => none) 0 (some s0)) 1 (some s1)) 2 (some s2)) 3 (some s3))))))), (s0, .inr (5, [.ref y0, .int 0, .int 0, .int 0])), (s1, .inr (5, [.ref y1, .int 0, .int 0, .int 0])), (s2, .inr (5, [.ref y2, .int 0, .int 0, .int 0])), (s3, .inr (5, [.ref y3, .int 0, .int 0, .int 0]))]) hP hD [0, 1, 2, 3, 4, 5] [] rfl rfl (by decide) (by decide) hk1 hFc hP1 hD1
  clear hPc hDc hKc hFc
  generalize H1 = H at hP hS ⊢
  have hP : va_P (dC, dI) vwCl [(h0, .inr (8, [.ref x_tape, .ref x_reader, .ref x_current, .ref x_images, .ref x_kept, .ref x_slots, .ref x_diary, .ref x_base, .ref x_trial, .ref x_plan, .ref x_orders, .ref x_unanswered, .int 0, .int 0, .int (-1)])), (x_slots, .inl (zk, 4, .inr (.inr (.inr (.inr (va_up (va_up (va_up (va_up (fun _ => none) 0 (some s0)) 1 (some s1)) 2 (some s2)) 3 (some s3))))))), (s0, .inr (5, [.ref y0, .int 0, .int 0, .int 0])), (s1, .inr (5, [.ref y1, .int 0, .int 0, .int 0])), (s2, .inr (5, [.ref y2, .int 0, .int 0, .int 0])), (s3, .inr (5, [.ref y3, .int 0, .int 0, .int 0]))] H := hP
  have hD : va_D A [(h0, .inr (8, [.ref x_tape, .ref x_reader, .ref x_current, .ref x_images, .ref x_kept, .ref x_slots, .ref x_diary, .ref x_base, .ref x_trial, .ref x_plan, .ref x_orders, .ref x_unanswered, .int 0, .int 0, .int (-1)])), (x_slots, .inl (zk, 4, .inr (.inr (.inr (.inr (va_up (va_up (va_up (va_up (fun _ => none) 0 (some s0)) 1 (some s1)) 2 (some s2)) 3 (some s3))))))), (s0, .inr (5, [.ref y0, .int 0, .int 0, .int 0])), (s1, .inr (5, [.ref y1, .int 0, .int 0, .int 0])), (s2, .inr (5, [.ref y2, .int 0, .int 0, .int 0])), (s3, .inr (5, [.ref y3, .int 0, .int 0, .int 0]))] := hD
  have hw : r_1 = 0 := hw
  subst hw
  exact W.iret (v := 0) hx hb hr (fun t ht hW => ⟨⟨0, (), rfl, rfl, trivial⟩, hS.F ht⟩) hS.2.2 dX8_count_120
set_option maxHeartbeats 4000000 in
set_option maxRecDepth 100000 in
theorem x_countN (l : Launch) (dC : Nat → ClassId) (dI : Nat → Nat → Nat) (sz : Nat) (h0 : Nat) (x_tape : Nat) (x_reader : Nat) (x_current : Nat) (x_images : Nat) (x_kept : Nat) (x_slots : Nat) (x_diary : Nat) (x_base : Nat) (x_trial : Nat) (x_plan : Nat) (x_orders : Nat) (x_unanswered : Nat) (a : Int32) (ha : a.toInt < 0 ∨ 8 < a.toInt) : Met l yX8_count (.code yX8_count cX8_count 2 (some .int) :: ALLW) ({ frames := 0, cells := 0, slots := 0, locals := 0 }) (va_Pc [.ref h0, .int a] (fun U => U.heap.size = sz ∧ va_P (dC, dI) vwCl [(h0, .inr (8, [.ref x_tape, .ref x_reader, .ref x_current, .ref x_images, .ref x_kept, .ref x_slots, .ref x_diary, .ref x_base, .ref x_trial, .ref x_plan, .ref x_orders, .ref x_unanswered, .int 0, .int 0, .int (-1)]))] U.heap ∧ va_K (dC, dI) vwCl [] U ∧ va_D (fun _ => True) [(h0, .inr (8, [.ref x_tape, .ref x_reader, .ref x_current, .ref x_images, .ref x_kept, .ref x_slots, .ref x_diary, .ref x_base, .ref x_trial, .ref x_plan, .ref x_orders, .ref x_unanswered, .int 0, .int 0, .int (-1)]))])) (va_Qi (fun (r : Int32) (_ : Unit) => r = (-1)) (fun (_ : Unit) (_ : State) => True) (va_A [(h0, .inr (8, [.ref x_tape, .ref x_reader, .ref x_current, .ref x_images, .ref x_kept, .ref x_slots, .ref x_diary, .ref x_base, .ref x_trial, .ref x_plan, .ref x_orders, .ref x_unanswered, .int 0, .int 0, .int (-1)]))] sz)) 0 0 (va_A [(h0, .inr (8, [.ref x_tape, .ref x_reader, .ref x_current, .ref x_images, .ref x_kept, .ref x_slots, .ref x_diary, .ref x_base, .ref x_trial, .ref x_plan, .ref x_orders, .ref x_unanswered, .int 0, .int 0, .int (-1)]))] sz) := by
  refine Met.ofW (cc := cX8_count) (maxL := 2) (ret := (some .int)) (by decide) rfl ?_
  intro p e s m args below meth c s₁ B hml hv
  obtain ⟨rfl, hsz, hP, hK, hD0⟩ := hv
  have hx := B.exec
  have hb := B.bytes
  have hr := B.returns
  have hts0 := atoms_spec (ws := (.code yX8_count cX8_count 2 (some .int) :: ALLW)) B.pre
  have hts := fun (w : Cond) (h : w ∈ ALLW) => hts0 w (List.mem_cons_of_mem _ h)
  have hown : s.vm.findClass RX8 = some m.cls := findClass_of_methodNamed B.named
  have hlocks := B.notSynchronized
  subst hsz
  have hD := hD0.self (sz := s.heap.size)
  generalize hAe : va_A [(h0, .inr (8, [.ref x_tape, .ref x_reader, .ref x_current, .ref x_images, .ref x_kept, .ref x_slots, .ref x_diary, .ref x_base, .ref x_trial, .ref x_plan, .ref x_orders, .ref x_unanswered, .int 0, .int 0, .int (-1)]))] s.heap.size = A at hD ⊢
  have hA : ∀ q : Nat, s.heap.size ≤ q → A q := fun q h => by rw [← hAe]; exact Or.inr h
  have hS : va_S A s.heap s.heap [] := va_S.rf
  have hP : va_P (dC, dI) vwCl [(h0, .inr (8, [.ref x_tape, .ref x_reader, .ref x_current, .ref x_images, .ref x_kept, .ref x_slots, .ref x_diary, .ref x_base, .ref x_trial, .ref x_plan, .ref x_orders, .ref x_unanswered, .int 0, .int 0, .int (-1)]))] s.heap := hP
  have hl := lv_entry ([.ref h0, .int a]) (n := 2) (Nat.le_of_ble_eq_true rfl)
  rw [lg_entry_eq]
  generalize (lg_sl ([.ref h0, .int a]) ++ List.replicate (2 - (lg_sl ([.ref h0, .int a])).length) Slot.unset).toArray = ls at hl ⊢
  have hl : lv_has ls 2 [(0, .ref h0), (1, .int a)] := hl
  refine lv_iload_n hx hb dX8_count_0 rfl (lv_at hl 1 rfl) ?_
  refine lv_tableOut (tgt := 121) hx hb dX8_count_1 (by omega) (by decide) ?_
  refine lv_iconst (v := (-1)) hx hb dX8_count_121 (by decide) ?_
  exact W.iret (v := (-1)) hx hb hr (fun t ht hW => ⟨⟨(-1), (), rfl, rfl, trivial⟩, hS.F ht⟩) hS.2.2 dX8_count_122
set_option maxHeartbeats 4000000 in
set_option maxRecDepth 100000 in
theorem x_keep0 (l : Launch) (dC : Nat → ClassId) (dI : Nat → Nat → Nat) (sz : Nat) (h0 : Nat) (x_tape : Nat) (x_reader : Nat) (x_current : Nat) (x_images : Nat) (x_kept : Nat) (x_slots : Nat) (x_diary : Nat) (x_base : Nat) (x_trial : Nat) (x_plan : Nat) (x_orders : Nat) (x_unanswered : Nat) (i0 : Nat) (i1 : Nat) (i2 : Nat) (ik : ClassId) (kk : ClassId) (kf : Nat → Int32) (t0 : Nat) (t1 : Nat) (t2 : Nat) (t3 : Nat) (t4 : Nat) (t5 : Nat) (t6 : Nat) (t7 : Nat) (t8 : Nat) (t9 : Nat) (u0 : Nat) (u1 : Nat) (u2 : Nat) (u3 : Nat) (u4 : Nat) (u5 : Nat) (u6 : Nat) (u7 : Nat) (u8 : Nat) (u9 : Nat) (tk0 : ClassId) (tk1 : ClassId) (tk2 : ClassId) (tk3 : ClassId) (tk4 : ClassId) (tk5 : ClassId) (tk6 : ClassId) (tk7 : ClassId) (tk8 : ClassId) (tk9 : ClassId) (tf0 : Nat → Int32) (tf1 : Nat → Int32) (tf2 : Nat → Int32) (tf3 : Nat → Int32) (tf4 : Nat → Int32) (tf5 : Nat → Int32) (tf6 : Nat → Int32) (tf7 : Nat → Int32) (tf8 : Nat → Int32) (tf9 : Nat → Int32) (uk0 : ClassId) (uk1 : ClassId) (uk2 : ClassId) (uk3 : ClassId) (uk4 : ClassId) (uk5 : ClassId) (uk6 : ClassId) (uk7 : ClassId) (uk8 : ClassId) (uk9 : ClassId) (uf0 : Nat → Int32) (uf1 : Nat → Int32) (uf2 : Nat → Int32) (uf3 : Nat → Int32) (uf4 : Nat → Int32) (uf5 : Nat → Int32) (uf6 : Nat → Int32) (uf7 : Nat → Int32) (uf8 : Nat → Int32) (uf9 : Nat → Int32)  : Met l yX8_keep (.code yX8_keep cX8_keep 2 (some .int) :: ALLW) ({ frames := 2, cells := 0, slots := 0, locals := 85 }) (va_Pc [.ref h0, .int 0] (fun U => U.heap.size = sz ∧ va_P (dC, dI) vwCl [(h0, .inr (8, [.ref x_tape, .ref x_reader, .ref x_current, .ref x_images, .ref x_kept, .ref x_slots, .ref x_diary, .ref x_base, .ref x_trial, .ref x_plan, .ref x_orders, .ref x_unanswered, .int 0, .int 0, .int (-1)])), (x_images, .inl (ik, 3, .inr (.inr (.inr (.inr (va_up (va_up (va_up (fun _ => none) 0 (some i0)) 1 (some i1)) 2 (some i2))))))), (x_kept, .inl (kk, 3, .inl kf)), (i0, .inr (7, [.int 0, .int 0, .int 0, .int 0, .int 0, .int 0, .int 0, .int 0, .ref t0, .ref t1, .ref t2, .ref t3, .ref t4, .ref t5, .ref t6, .ref t7, .ref t8, .ref t9])), (x_current, .inr (7, [.int 0, .int 0, .int 0, .int 0, .int 0, .int 0, .int 0, .int 0, .ref u0, .ref u1, .ref u2, .ref u3, .ref u4, .ref u5, .ref u6, .ref u7, .ref u8, .ref u9])), (t0, .inl (tk0, 8, .inl tf0)), (t1, .inl (tk1, 8, .inl tf1)), (t2, .inl (tk2, 8, .inl tf2)), (t3, .inl (tk3, 49, .inl tf3)), (t4, .inl (tk4, 49, .inl tf4)), (t5, .inl (tk5, 49, .inl tf5)), (t6, .inl (tk6, 49, .inl tf6)), (t7, .inl (tk7, 49, .inl tf7)), (t8, .inl (tk8, 49, .inl tf8)), (t9, .inl (tk9, 49, .inl tf9)), (u0, .inl (uk0, 8, .inl uf0)), (u1, .inl (uk1, 8, .inl uf1)), (u2, .inl (uk2, 8, .inl uf2)), (u3, .inl (uk3, 49, .inl uf3)), (u4, .inl (uk4, 49, .inl uf4)), (u5, .inl (uk5, 49, .inl uf5)), (u6, .inl (uk6, 49, .inl uf6)), (u7, .inl (uk7, 49, .inl uf7)), (u8, .inl (uk8, 49, .inl uf8)), (u9, .inl (uk9, 49, .inl uf9))] U.heap ∧ va_K (dC, dI) vwCl [(ik, .object RX7), (kk, .boolean), (tk0, .int), (tk1, .int), (tk2, .int), (tk3, .int), (tk4, .int), (tk5, .int), (tk6, .int), (tk7, .int), (tk8, .int), (tk9, .int), (uk0, .int), (uk1, .int), (uk2, .int), (uk3, .int), (uk4, .int), (uk5, .int), (uk6, .int), (uk7, .int), (uk8, .int), (uk9, .int)] U ∧ va_D (fun _ => True) [(h0, .inr (8, [.ref x_tape, .ref x_reader, .ref x_current, .ref x_images, .ref x_kept, .ref x_slots, .ref x_diary, .ref x_base, .ref x_trial, .ref x_plan, .ref x_orders, .ref x_unanswered, .int 0, .int 0, .int (-1)])), (x_images, .inl (ik, 3, .inr (.inr (.inr (.inr (va_up (va_up (va_up (fun _ => none) 0 (some i0)) 1 (some i1)) 2 (some i2))))))), (x_kept, .inl (kk, 3, .inl kf)), (i0, .inr (7, [.int 0, .int 0, .int 0, .int 0, .int 0, .int 0, .int 0, .int 0, .ref t0, .ref t1, .ref t2, .ref t3, .ref t4, .ref t5, .ref t6, .ref t7, .ref t8, .ref t9])), (x_current, .inr (7, [.int 0, .int 0, .int 0, .int 0, .int 0, .int 0, .int 0, .int 0, .ref u0, .ref u1, .ref u2, .ref u3, .ref u4, .ref u5, .ref u6, .ref u7, .ref u8, .ref u9])), (t0, .inl (tk0, 8, .inl tf0)), (t1, .inl (tk1, 8, .inl tf1)), (t2, .inl (tk2, 8, .inl tf2)), (t3, .inl (tk3, 49, .inl tf3)), (t4, .inl (tk4, 49, .inl tf4)), (t5, .inl (tk5, 49, .inl tf5)), (t6, .inl (tk6, 49, .inl tf6)), (t7, .inl (tk7, 49, .inl tf7)), (t8, .inl (tk8, 49, .inl tf8)), (t9, .inl (tk9, 49, .inl tf9)), (u0, .inl (uk0, 8, .inl uf0)), (u1, .inl (uk1, 8, .inl uf1)), (u2, .inl (uk2, 8, .inl uf2)), (u3, .inl (uk3, 49, .inl uf3)), (u4, .inl (uk4, 49, .inl uf4)), (u5, .inl (uk5, 49, .inl uf5)), (u6, .inl (uk6, 49, .inl uf6)), (u7, .inl (uk7, 49, .inl uf7)), (u8, .inl (uk8, 49, .inl uf8)), (u9, .inl (uk9, 49, .inl uf9))])) (va_Qi (fun (r : Int32) (_ : Unit) => r = 0) (fun (_ : Unit) (_ : State) => True) (va_A [(h0, .inr (8, [.ref x_tape, .ref x_reader, .ref x_current, .ref x_images, .ref x_kept, .ref x_slots, .ref x_diary, .ref x_base, .ref x_trial, .ref x_plan, .ref x_orders, .ref x_unanswered, .int 0, .int 0, .int (-1)])), (x_images, .inl (ik, 3, .inr (.inr (.inr (.inr (va_up (va_up (va_up (fun _ => none) 0 (some i0)) 1 (some i1)) 2 (some i2))))))), (x_kept, .inl (kk, 3, .inl kf)), (i0, .inr (7, [.int 0, .int 0, .int 0, .int 0, .int 0, .int 0, .int 0, .int 0, .ref t0, .ref t1, .ref t2, .ref t3, .ref t4, .ref t5, .ref t6, .ref t7, .ref t8, .ref t9])), (x_current, .inr (7, [.int 0, .int 0, .int 0, .int 0, .int 0, .int 0, .int 0, .int 0, .ref u0, .ref u1, .ref u2, .ref u3, .ref u4, .ref u5, .ref u6, .ref u7, .ref u8, .ref u9])), (t0, .inl (tk0, 8, .inl tf0)), (t1, .inl (tk1, 8, .inl tf1)), (t2, .inl (tk2, 8, .inl tf2)), (t3, .inl (tk3, 49, .inl tf3)), (t4, .inl (tk4, 49, .inl tf4)), (t5, .inl (tk5, 49, .inl tf5)), (t6, .inl (tk6, 49, .inl tf6)), (t7, .inl (tk7, 49, .inl tf7)), (t8, .inl (tk8, 49, .inl tf8)), (t9, .inl (tk9, 49, .inl tf9)), (u0, .inl (uk0, 8, .inl uf0)), (u1, .inl (uk1, 8, .inl uf1)), (u2, .inl (uk2, 8, .inl uf2)), (u3, .inl (uk3, 49, .inl uf3)), (u4, .inl (uk4, 49, .inl uf4)), (u5, .inl (uk5, 49, .inl uf5)), (u6, .inl (uk6, 49, .inl uf6)), (u7, .inl (uk7, 49, .inl uf7)), (u8, .inl (uk8, 49, .inl uf8)), (u9, .inl (uk9, 49, .inl uf9))] sz)) 0 0 (va_A [(h0, .inr (8, [.ref x_tape, .ref x_reader, .ref x_current, .ref x_images, .ref x_kept, .ref x_slots, .ref x_diary, .ref x_base, .ref x_trial, .ref x_plan, .ref x_orders, .ref x_unanswered, .int 0, .int 0, .int (-1)])), (x_images, .inl (ik, 3, .inr (.inr (.inr (.inr (va_up (va_up (va_up (fun _ => none) 0 (some i0)) 1 (some i1)) 2 (some i2))))))), (x_kept, .inl (kk, 3, .inl kf)), (i0, .inr (7, [.int 0, .int 0, .int 0, .int 0, .int 0, .int 0, .int 0, .int 0, .ref t0, .ref t1, .ref t2, .ref t3, .ref t4, .ref t5, .ref t6, .ref t7, .ref t8, .ref t9])), (x_current, .inr (7, [.int 0, .int 0, .int 0, .int 0, .int 0, .int 0, .int 0, .int 0, .ref u0, .ref u1, .ref u2, .ref u3, .ref u4, .ref u5, .ref u6, .ref u7, .ref u8, .ref u9])), (t0, .inl (tk0, 8, .inl tf0)), (t1, .inl (tk1, 8, .inl tf1)), (t2, .inl (tk2, 8, .inl tf2)), (t3, .inl (tk3, 49, .inl tf3)), (t4, .inl (tk4, 49, .inl tf4)), (t5, .inl (tk5, 49, .inl tf5)), (t6, .inl (tk6, 49, .inl tf6)), (t7, .inl (tk7, 49, .inl tf7)), (t8, .inl (tk8, 49, .inl tf8)), (t9, .inl (tk9, 49, .inl tf9)), (u0, .inl (uk0, 8, .inl uf0)), (u1, .inl (uk1, 8, .inl uf1)), (u2, .inl (uk2, 8, .inl uf2)), (u3, .inl (uk3, 49, .inl uf3)), (u4, .inl (uk4, 49, .inl uf4)), (u5, .inl (uk5, 49, .inl uf5)), (u6, .inl (uk6, 49, .inl uf6)), (u7, .inl (uk7, 49, .inl uf7)), (u8, .inl (uk8, 49, .inl uf8)), (u9, .inl (uk9, 49, .inl uf9))] sz) := by
  refine Met.ofW (cc := cX8_keep) (maxL := 2) (ret := (some .int)) (by decide) rfl ?_
  intro p e s m args below meth c s₁ B hml hv
  obtain ⟨rfl, hsz, hP, hK, hD0⟩ := hv
  have hx := B.exec
  have hb := B.bytes
  have hr := B.returns
  have hts0 := atoms_spec (ws := (.code yX8_keep cX8_keep 2 (some .int) :: ALLW)) B.pre
  have hts := fun (w : Cond) (h : w ∈ ALLW) => hts0 w (List.mem_cons_of_mem _ h)
  have hown : s.vm.findClass RX8 = some m.cls := findClass_of_methodNamed B.named
  have hlocks := B.notSynchronized
  subst hsz
  have hD := hD0.self (sz := s.heap.size)
  generalize hAe : va_A [(h0, .inr (8, [.ref x_tape, .ref x_reader, .ref x_current, .ref x_images, .ref x_kept, .ref x_slots, .ref x_diary, .ref x_base, .ref x_trial, .ref x_plan, .ref x_orders, .ref x_unanswered, .int 0, .int 0, .int (-1)])), (x_images, .inl (ik, 3, .inr (.inr (.inr (.inr (va_up (va_up (va_up (fun _ => none) 0 (some i0)) 1 (some i1)) 2 (some i2))))))), (x_kept, .inl (kk, 3, .inl kf)), (i0, .inr (7, [.int 0, .int 0, .int 0, .int 0, .int 0, .int 0, .int 0, .int 0, .ref t0, .ref t1, .ref t2, .ref t3, .ref t4, .ref t5, .ref t6, .ref t7, .ref t8, .ref t9])), (x_current, .inr (7, [.int 0, .int 0, .int 0, .int 0, .int 0, .int 0, .int 0, .int 0, .ref u0, .ref u1, .ref u2, .ref u3, .ref u4, .ref u5, .ref u6, .ref u7, .ref u8, .ref u9])), (t0, .inl (tk0, 8, .inl tf0)), (t1, .inl (tk1, 8, .inl tf1)), (t2, .inl (tk2, 8, .inl tf2)), (t3, .inl (tk3, 49, .inl tf3)), (t4, .inl (tk4, 49, .inl tf4)), (t5, .inl (tk5, 49, .inl tf5)), (t6, .inl (tk6, 49, .inl tf6)), (t7, .inl (tk7, 49, .inl tf7)), (t8, .inl (tk8, 49, .inl tf8)), (t9, .inl (tk9, 49, .inl tf9)), (u0, .inl (uk0, 8, .inl uf0)), (u1, .inl (uk1, 8, .inl uf1)), (u2, .inl (uk2, 8, .inl uf2)), (u3, .inl (uk3, 49, .inl uf3)), (u4, .inl (uk4, 49, .inl uf4)), (u5, .inl (uk5, 49, .inl uf5)), (u6, .inl (uk6, 49, .inl uf6)), (u7, .inl (uk7, 49, .inl uf7)), (u8, .inl (uk8, 49, .inl uf8)), (u9, .inl (uk9, 49, .inl uf9))] s.heap.size = A at hD ⊢
  have hA : ∀ q : Nat, s.heap.size ≤ q → A q := fun q h => by rw [← hAe]; exact Or.inr h
  have hS : va_S A s.heap s.heap [] := va_S.rf
  have hP : va_P (dC, dI) vwCl [(h0, .inr (8, [.ref x_tape, .ref x_reader, .ref x_current, .ref x_images, .ref x_kept, .ref x_slots, .ref x_diary, .ref x_base, .ref x_trial, .ref x_plan, .ref x_orders, .ref x_unanswered, .int 0, .int 0, .int (-1)])), (x_images, .inl (ik, 3, .inr (.inr (.inr (.inr (va_up (va_up (va_up (fun _ => none) 0 (some i0)) 1 (some i1)) 2 (some i2))))))), (x_kept, .inl (kk, 3, .inl kf)), (i0, .inr (7, [.int 0, .int 0, .int 0, .int 0, .int 0, .int 0, .int 0, .int 0, .ref t0, .ref t1, .ref t2, .ref t3, .ref t4, .ref t5, .ref t6, .ref t7, .ref t8, .ref t9])), (x_current, .inr (7, [.int 0, .int 0, .int 0, .int 0, .int 0, .int 0, .int 0, .int 0, .ref u0, .ref u1, .ref u2, .ref u3, .ref u4, .ref u5, .ref u6, .ref u7, .ref u8, .ref u9])), (t0, .inl (tk0, 8, .inl tf0)), (t1, .inl (tk1, 8, .inl tf1)), (t2, .inl (tk2, 8, .inl tf2)), (t3, .inl (tk3, 49, .inl tf3)), (t4, .inl (tk4, 49, .inl tf4)), (t5, .inl (tk5, 49, .inl tf5)), (t6, .inl (tk6, 49, .inl tf6)), (t7, .inl (tk7, 49, .inl tf7)), (t8, .inl (tk8, 49, .inl tf8)), (t9, .inl (tk9, 49, .inl tf9)), (u0, .inl (uk0, 8, .inl uf0)), (u1, .inl (uk1, 8, .inl uf1)), (u2, .inl (uk2, 8, .inl uf2)), (u3, .inl (uk3, 49, .inl uf3)), (u4, .inl (uk4, 49, .inl uf4)), (u5, .inl (uk5, 49, .inl uf5)), (u6, .inl (uk6, 49, .inl uf6)), (u7, .inl (uk7, 49, .inl uf7)), (u8, .inl (uk8, 49, .inl uf8)), (u9, .inl (uk9, 49, .inl uf9))] s.heap := hP
  have hl := lv_entry ([.ref h0, .int 0]) (n := 2) (Nat.le_of_ble_eq_true rfl)
  rw [lg_entry_eq]
  generalize (lg_sl ([.ref h0, .int 0]) ++ List.replicate (2 - (lg_sl ([.ref h0, .int 0])).length) Slot.unset).toArray = ls at hl ⊢
  have hl : lv_has ls 2 [(0, .ref h0), (1, .int 0)] := hl
  refine lv_iload_n hx hb dX8_keep_0 rfl (lv_at hl 1 rfl) ?_
  refine lv_if_lt (tgt := 9) hx hb dX8_keep_1 (by decide) (fun c_1 => absurd c_1 (by decide)) (fun c_1 => ?_)
  refine lv_iload_n hx hb dX8_keep_4 rfl (lv_at hl 1 rfl) ?_
  refine lv_iconst (v := 3) hx hb dX8_keep_5 (by decide) ?_
  refine lv_icmp_lt (tgt := 12) hx hb dX8_keep_6 (by decide) (fun c_2 => ?_) (fun c_2 => absurd (by decide) c_2)
  refine lv_aload_n hx hb dX8_keep_12 rfl (lv_at hl 0 rfl) ?_
  refine va_get (D := (dC, dI)) (ci := 8) (v := .ref x_images) (C := RX8) (T := TX8) (N := 15) hx hb hts inA8 hown hK hP 0 rfl rfl 3 (by decide) (hts _ w_25) (fun _ h9 => h9) rfl dX8_keep_13 ?_
  refine lv_iload_n hx hb dX8_keep_16 rfl (lv_at hl 1 rfl) ?_
  refine va_aldq hx hb hK hP 1 0 rfl rfl (show vp_in 0 3 from (by unfold vp_in; decide)) dX8_keep_17 ?_
  refine W.eq (g2 := F0 m 18 ls [.ref i0]) rfl ?_
  refine lv_aload_n hx hb dX8_keep_18 rfl (lv_at hl 0 rfl) ?_
  refine va_get (D := (dC, dI)) (ci := 8) (v := .ref x_current) (C := RX8) (T := TX8) (N := 15) hx hb hts inA8 hown hK hP 0 rfl rfl 2 (by decide) (hts _ w_24) (fun _ h9 => h9) rfl dX8_keep_19 ?_
  have hPc := hP.sub (ws' := [(i0, .inr (7, [.int 0, .int 0, .int 0, .int 0, .int 0, .int 0, .int 0, .int 0, .ref t0, .ref t1, .ref t2, .ref t3, .ref t4, .ref t5, .ref t6, .ref t7, .ref t8, .ref t9])), (x_current, .inr (7, [.int 0, .int 0, .int 0, .int 0, .int 0, .int 0, .int 0, .int 0, .ref u0, .ref u1, .ref u2, .ref u3, .ref u4, .ref u5, .ref u6, .ref u7, .ref u8, .ref u9])), (t0, .inl (tk0, 8, .inl tf0)), (t1, .inl (tk1, 8, .inl tf1)), (t2, .inl (tk2, 8, .inl tf2)), (t3, .inl (tk3, 49, .inl tf3)), (t4, .inl (tk4, 49, .inl tf4)), (t5, .inl (tk5, 49, .inl tf5)), (t6, .inl (tk6, 49, .inl tf6)), (t7, .inl (tk7, 49, .inl tf7)), (t8, .inl (tk8, 49, .inl tf8)), (t9, .inl (tk9, 49, .inl tf9)), (u0, .inl (uk0, 8, .inl uf0)), (u1, .inl (uk1, 8, .inl uf1)), (u2, .inl (uk2, 8, .inl uf2)), (u3, .inl (uk3, 49, .inl uf3)), (u4, .inl (uk4, 49, .inl uf4)), (u5, .inl (uk5, 49, .inl uf5)), (u6, .inl (uk6, 49, .inl uf6)), (u7, .inl (uk7, 49, .inl uf7)), (u8, .inl (uk8, 49, .inl uf8)), (u9, .inl (uk9, 49, .inl uf9))]) [3, 4, 5, 6, 7, 8, 9, 10, 11, 12, 13, 14, 15, 16, 17, 18, 19, 20, 21, 22, 23, 24] rfl
  have hDc := hD.sub (ws' := [(i0, .inr (7, [.int 0, .int 0, .int 0, .int 0, .int 0, .int 0, .int 0, .int 0, .ref t0, .ref t1, .ref t2, .ref t3, .ref t4, .ref t5, .ref t6, .ref t7, .ref t8, .ref t9])), (x_current, .inr (7, [.int 0, .int 0, .int 0, .int 0, .int 0, .int 0, .int 0, .int 0, .ref u0, .ref u1, .ref u2, .ref u3, .ref u4, .ref u5, .ref u6, .ref u7, .ref u8, .ref u9])), (t0, .inl (tk0, 8, .inl tf0)), (t1, .inl (tk1, 8, .inl tf1)), (t2, .inl (tk2, 8, .inl tf2)), (t3, .inl (tk3, 49, .inl tf3)), (t4, .inl (tk4, 49, .inl tf4)), (t5, .inl (tk5, 49, .inl tf5)), (t6, .inl (tk6, 49, .inl tf6)), (t7, .inl (tk7, 49, .inl tf7)), (t8, .inl (tk8, 49, .inl tf8)), (t9, .inl (tk9, 49, .inl tf9)), (u0, .inl (uk0, 8, .inl uf0)), (u1, .inl (uk1, 8, .inl uf1)), (u2, .inl (uk2, 8, .inl uf2)), (u3, .inl (uk3, 49, .inl uf3)), (u4, .inl (uk4, 49, .inl uf4)), (u5, .inl (uk5, 49, .inl uf5)), (u6, .inl (uk6, 49, .inl uf6)), (u7, .inl (uk7, 49, .inl uf7)), (u8, .inl (uk8, 49, .inl uf8)), (u9, .inl (uk9, 49, .inl uf9))]) [3, 4, 5, 6, 7, 8, 9, 10, 11, 12, 13, 14, 15, 16, 17, 18, 19, 20, 21, 22, 23, 24] (by decide) rfl
  have hKc := hK.sub (tys' := [(tk0, .int), (tk1, .int), (tk2, .int), (tk3, .int), (tk4, .int), (tk5, .int), (tk6, .int), (tk7, .int), (tk8, .int), (tk9, .int), (uk0, .int), (uk1, .int), (uk2, .int), (uk3, .int), (uk4, .int), (uk5, .int), (uk6, .int), (uk7, .int), (uk8, .int), (uk9, .int)]) [2, 3, 4, 5, 6, 7, 8, 9, 10, 11, 12, 13, 14, 15, 16, 17, 18, 19, 20, 21] rfl
  have hFc := va_free (wc := [(i0, .inr (7, [.int 0, .int 0, .int 0, .int 0, .int 0, .int 0, .int 0, .int 0, .ref t0, .ref t1, .ref t2, .ref t3, .ref t4, .ref t5, .ref t6, .ref t7, .ref t8, .ref t9])), (x_current, .inr (7, [.int 0, .int 0, .int 0, .int 0, .int 0, .int 0, .int 0, .int 0, .ref u0, .ref u1, .ref u2, .ref u3, .ref u4, .ref u5, .ref u6, .ref u7, .ref u8, .ref u9])), (t0, .inl (tk0, 8, .inl tf0)), (t1, .inl (tk1, 8, .inl tf1)), (t2, .inl (tk2, 8, .inl tf2)), (t3, .inl (tk3, 49, .inl tf3)), (t4, .inl (tk4, 49, .inl tf4)), (t5, .inl (tk5, 49, .inl tf5)), (t6, .inl (tk6, 49, .inl tf6)), (t7, .inl (tk7, 49, .inl tf7)), (t8, .inl (tk8, 49, .inl tf8)), (t9, .inl (tk9, 49, .inl tf9)), (u0, .inl (uk0, 8, .inl uf0)), (u1, .inl (uk1, 8, .inl uf1)), (u2, .inl (uk2, 8, .inl uf2)), (u3, .inl (uk3, 49, .inl uf3)), (u4, .inl (uk4, 49, .inl uf4)), (u5, .inl (uk5, 49, .inl uf5)), (u6, .inl (uk6, 49, .inl uf6)), (u7, .inl (uk7, 49, .inl uf7)), (u8, .inl (uk8, 49, .inl uf8)), (u9, .inl (uk9, 49, .inl uf9))]) hD hS hA [3, 4, 5, 6, 7, 8, 9, 10, 11, 12, 13, 14, 15, 16, 17, 18, 19, 20, 21, 22, 23, 24] rfl
  refine va_callv (va_runV (As := [.ref x_current]) (rest := []) ⟨hx, hb, hml, hown, hts⟩ (c_copyFrom l dC dI s.heap.size i0 x_current t0 t1 t2 t3 t4 t5 t6 t7 t8 t9 u0 u1 u2 u3 u4 u5 u6 u7 u8 u9 tk0 tk1 tk2 tk3 tk4 tk5 tk6 tk7 tk8 tk9 tf0 tf1 tf2 tf3 tf4 tf5 tf6 tf7 tf8 tf9 uk0 uk1 uk2 uk3 uk4 uk5 uk6 uk7 uk8 uk9 uf0 uf1 uf2 uf3 uf4 uf5 uf6 uf7 uf8 uf9 ) (cwV 1 hts (goodV w_385 w_386 w_387 w_23 w_388) rfl rfl rfl hdV_X7_copyFrom ⟨Nat.le_of_ble_eq_true rfl, Nat.le_of_ble_eq_true rfl⟩) ⟨fun a U g mk q => by obtain ⟨q0, q1, qP, qK, qD⟩ := q; exact ⟨q0, q1, qP, va_K.moved (u := U) (U := U.calling g mk a) (Vm.Alike.refl U.vm) qK, qD⟩, va_recv hKc hPc (ci := 7) (q0 := 0) rfl rfl, fun U hU hW => ⟨rfl, by rw [hU], by rw [hU]; exact hPc, va_K.moved hW.alike hKc, hDc.weaken (fun _ _ _ _ => trivial)⟩⟩ rfl rfl hl.1 rfl (lv_room (Nat.le_of_ble_eq_true rfl)) dX8_keep_22 ⟨Nat.le_of_ble_eq_true rfl, Nat.le_of_ble_eq_true rfl⟩) hS (fun q _ h => hFc q h) hFc (fun  u t H1 locs ht hvm hw hB hz1 hk1 hS => ?_)
  obtain ⟨hP1, hK1, hD1⟩ := hB
  rw [ht] at hP1
  have hK1 := va_K.moved hvm.symm hK1
  obtain ⟨hP, hD⟩ := va_join (wr := [(h0, .inr (8, [.ref x_tape, .ref x_reader, .ref x_current, .ref x_images, .ref x_kept, .ref x_slots, .ref x_diary, .ref x_base, .ref x_trial, .ref x_plan, .ref x_orders, .ref x_unanswered, .int 0, .int 0, .int (-1)])), (x_images, .inl (ik, 3, .inr (.inr (.inr (.inr (va_up (va_up (va_up (fun _ => none) 0 (some i0)) 1 (some i1)) 2 (some i2))))))), (x_kept, .inl (kk, 3, .inl kf))]) (w1 := [(i0, .inr (7, [.int 0, .int 0, .int 0, .int 0, .int 0, .int 0, .int 0, .int 0, .ref t0, .ref t1, .ref t2, .ref t3, .ref t4, .ref t5, .ref t6, .ref t7, .ref t8, .ref t9]))]) hP hD [3, 4, 5, 6, 7, 8, 9, 10, 11, 12, 13, 14, 15, 16, 17, 18, 19, 20, 21, 22, 23, 24] [0, 1, 2] rfl rfl (by decide) (by decide) hk1 hFc hP1 hD1
  clear hPc hDc hKc hFc
  generalize H1 = H at hP hS ⊢
  have hP : va_P (dC, dI) vwCl [(h0, .inr (8, [.ref x_tape, .ref x_reader, .ref x_current, .ref x_images, .ref x_kept, .ref x_slots, .ref x_diary, .ref x_base, .ref x_trial, .ref x_plan, .ref x_orders, .ref x_unanswered, .int 0, .int 0, .int (-1)])), (x_images, .inl (ik, 3, .inr (.inr (.inr (.inr (va_up (va_up (va_up (fun _ => none) 0 (some i0)) 1 (some i1)) 2 (some i2))))))), (x_kept, .inl (kk, 3, .inl kf)), (i0, .inr (7, [.int 0, .int 0, .int 0, .int 0, .int 0, .int 0, .int 0, .int 0, .ref t0, .ref t1, .ref t2, .ref t3, .ref t4, .ref t5, .ref t6, .ref t7, .ref t8, .ref t9]))] H := hP
  have hD : va_D A [(h0, .inr (8, [.ref x_tape, .ref x_reader, .ref x_current, .ref x_images, .ref x_kept, .ref x_slots, .ref x_diary, .ref x_base, .ref x_trial, .ref x_plan, .ref x_orders, .ref x_unanswered, .int 0, .int 0, .int (-1)])), (x_images, .inl (ik, 3, .inr (.inr (.inr (.inr (va_up (va_up (va_up (fun _ => none) 0 (some i0)) 1 (some i1)) 2 (some i2))))))), (x_kept, .inl (kk, 3, .inl kf)), (i0, .inr (7, [.int 0, .int 0, .int 0, .int 0, .int 0, .int 0, .int 0, .int 0, .ref t0, .ref t1, .ref t2, .ref t3, .ref t4, .ref t5, .ref t6, .ref t7, .ref t8, .ref t9]))] := hD
  refine lv_aload_n hx hb dX8_keep_25 rfl (lv_at hl 0 rfl) ?_
  refine va_get (D := (dC, dI)) (ci := 8) (v := .ref x_kept) (C := RX8) (T := TX8) (N := 15) hx hb hts inA8 hown hK hP 0 rfl rfl 4 (by decide) (hts _ w_27) (fun _ h9 => h9) rfl dX8_keep_26 ?_
  refine lv_iload_n hx hb dX8_keep_29 rfl (lv_at hl 1 rfl) ?_
  refine lv_iconst (v := 1) hx hb dX8_keep_30 (by decide) ?_
  refine va_zast hx hb hK hP hD hS 2 1 rfl rfl (show vp_in 0 3 from (by unfold vp_in; decide)) dX8_keep_31 (fun H locs hP hD hS => ?_)
  rw [show (0 : Int32).toNatClampNeg = 0 from by decide] at hP hD
  generalize upd (kf) 0 (vp_nar .boolean 1) = f_3 at hP hD
  have hP : va_P (dC, dI) vwCl [(h0, .inr (8, [.ref x_tape, .ref x_reader, .ref x_current, .ref x_images, .ref x_kept, .ref x_slots, .ref x_diary, .ref x_base, .ref x_trial, .ref x_plan, .ref x_orders, .ref x_unanswered, .int 0, .int 0, .int (-1)])), (x_images, .inl (ik, 3, .inr (.inr (.inr (.inr (va_up (va_up (va_up (fun _ => none) 0 (some i0)) 1 (some i1)) 2 (some i2))))))), (x_kept, .inl (kk, 3, .inl f_3)), (i0, .inr (7, [.int 0, .int 0, .int 0, .int 0, .int 0, .int 0, .int 0, .int 0, .ref t0, .ref t1, .ref t2, .ref t3, .ref t4, .ref t5, .ref t6, .ref t7, .ref t8, .ref t9]))] H := hP
  have hD : va_D A [(h0, .inr (8, [.ref x_tape, .ref x_reader, .ref x_current, .ref x_images, .ref x_kept, .ref x_slots, .ref x_diary, .ref x_base, .ref x_trial, .ref x_plan, .ref x_orders, .ref x_unanswered, .int 0, .int 0, .int (-1)])), (x_images, .inl (ik, 3, .inr (.inr (.inr (.inr (va_up (va_up (va_up (fun _ => none) 0 (some i0)) 1 (some i1)) 2 (some i2))))))), (x_kept, .inl (kk, 3, .inl f_3)), (i0, .inr (7, [.int 0, .int 0, .int 0, .int 0, .int 0, .int 0, .int 0, .int 0, .ref t0, .ref t1, .ref t2, .ref t3, .ref t4, .ref t5, .ref t6, .ref t7, .ref t8, .ref t9]))] := hD
  refine lv_iconst (v := 0) hx hb dX8_keep_32 (by decide) ?_
  exact W.iret (v := 0) hx hb hr (fun t ht hW => ⟨⟨0, (), rfl, rfl, trivial⟩, hS.F ht⟩) hS.2.2 dX8_keep_33
set_option maxHeartbeats 4000000 in
set_option maxRecDepth 100000 in
theorem x_back0 (l : Launch) (dC : Nat → ClassId) (dI : Nat → Nat → Nat) (sz : Nat) (h0 : Nat) (x_tape : Nat) (x_reader : Nat) (x_current : Nat) (x_images : Nat) (x_kept : Nat) (x_slots : Nat) (x_diary : Nat) (x_base : Nat) (x_trial : Nat) (x_plan : Nat) (x_orders : Nat) (x_unanswered : Nat) (kk : ClassId)  : Met l yX8_back (.code yX8_back cX8_back 2 (some .int) :: ALLW) ({ frames := 0, cells := 0, slots := 0, locals := 0 }) (va_Pc [.ref h0, .int 0] (fun U => U.heap.size = sz ∧ va_P (dC, dI) vwCl [(h0, .inr (8, [.ref x_tape, .ref x_reader, .ref x_current, .ref x_images, .ref x_kept, .ref x_slots, .ref x_diary, .ref x_base, .ref x_trial, .ref x_plan, .ref x_orders, .ref x_unanswered, .int 0, .int 0, .int (-1)])), (x_kept, .inl (kk, 3, .inl (fun _ => 0)))] U.heap ∧ va_K (dC, dI) vwCl [(kk, .boolean)] U ∧ va_D (fun _ => True) [(h0, .inr (8, [.ref x_tape, .ref x_reader, .ref x_current, .ref x_images, .ref x_kept, .ref x_slots, .ref x_diary, .ref x_base, .ref x_trial, .ref x_plan, .ref x_orders, .ref x_unanswered, .int 0, .int 0, .int (-1)])), (x_kept, .inl (kk, 3, .inl (fun _ => 0)))])) (va_Qi (fun (r : Int32) (_ : Unit) => r = (-6)) (fun (_ : Unit) (_ : State) => True) (va_A [(h0, .inr (8, [.ref x_tape, .ref x_reader, .ref x_current, .ref x_images, .ref x_kept, .ref x_slots, .ref x_diary, .ref x_base, .ref x_trial, .ref x_plan, .ref x_orders, .ref x_unanswered, .int 0, .int 0, .int (-1)])), (x_kept, .inl (kk, 3, .inl (fun _ => 0)))] sz)) 0 0 (va_A [(h0, .inr (8, [.ref x_tape, .ref x_reader, .ref x_current, .ref x_images, .ref x_kept, .ref x_slots, .ref x_diary, .ref x_base, .ref x_trial, .ref x_plan, .ref x_orders, .ref x_unanswered, .int 0, .int 0, .int (-1)])), (x_kept, .inl (kk, 3, .inl (fun _ => 0)))] sz) := by
  refine Met.ofW (cc := cX8_back) (maxL := 2) (ret := (some .int)) (by decide) rfl ?_
  intro p e s m args below meth c s₁ B hml hv
  obtain ⟨rfl, hsz, hP, hK, hD0⟩ := hv
  have hx := B.exec
  have hb := B.bytes
  have hr := B.returns
  have hts0 := atoms_spec (ws := (.code yX8_back cX8_back 2 (some .int) :: ALLW)) B.pre
  have hts := fun (w : Cond) (h : w ∈ ALLW) => hts0 w (List.mem_cons_of_mem _ h)
  have hown : s.vm.findClass RX8 = some m.cls := findClass_of_methodNamed B.named
  have hlocks := B.notSynchronized
  subst hsz
  have hD := hD0.self (sz := s.heap.size)
  generalize hAe : va_A [(h0, .inr (8, [.ref x_tape, .ref x_reader, .ref x_current, .ref x_images, .ref x_kept, .ref x_slots, .ref x_diary, .ref x_base, .ref x_trial, .ref x_plan, .ref x_orders, .ref x_unanswered, .int 0, .int 0, .int (-1)])), (x_kept, .inl (kk, 3, .inl (fun _ => 0)))] s.heap.size = A at hD ⊢
  have hA : ∀ q : Nat, s.heap.size ≤ q → A q := fun q h => by rw [← hAe]; exact Or.inr h
  have hS : va_S A s.heap s.heap [] := va_S.rf
  have hP : va_P (dC, dI) vwCl [(h0, .inr (8, [.ref x_tape, .ref x_reader, .ref x_current, .ref x_images, .ref x_kept, .ref x_slots, .ref x_diary, .ref x_base, .ref x_trial, .ref x_plan, .ref x_orders, .ref x_unanswered, .int 0, .int 0, .int (-1)])), (x_kept, .inl (kk, 3, .inl (fun _ => 0)))] s.heap := hP
  have hl := lv_entry ([.ref h0, .int 0]) (n := 2) (Nat.le_of_ble_eq_true rfl)
  rw [lg_entry_eq]
  generalize (lg_sl ([.ref h0, .int 0]) ++ List.replicate (2 - (lg_sl ([.ref h0, .int 0])).length) Slot.unset).toArray = ls at hl ⊢
  have hl : lv_has ls 2 [(0, .ref h0), (1, .int 0)] := hl
  refine lv_iload_n hx hb dX8_back_0 rfl (lv_at hl 1 rfl) ?_
  refine lv_if_lt (tgt := 9) hx hb dX8_back_1 (by decide) (fun c_1 => absurd c_1 (by decide)) (fun c_1 => ?_)
  refine lv_iload_n hx hb dX8_back_4 rfl (lv_at hl 1 rfl) ?_
  refine lv_iconst (v := 3) hx hb dX8_back_5 (by decide) ?_
  refine lv_icmp_lt (tgt := 12) hx hb dX8_back_6 (by decide) (fun c_2 => ?_) (fun c_2 => absurd (by decide) c_2)
  refine lv_aload_n hx hb dX8_back_12 rfl (lv_at hl 0 rfl) ?_
  refine va_get (D := (dC, dI)) (ci := 8) (v := .ref x_kept) (C := RX8) (T := TX8) (N := 15) hx hb hts inA8 hown hK hP 0 rfl rfl 4 (by decide) (hts _ w_27) (fun _ h9 => h9) rfl dX8_back_13 ?_
  refine lv_iload_n hx hb dX8_back_16 rfl (lv_at hl 1 rfl) ?_
  refine va_zald hx hb hK hP 1 0 rfl rfl (show vp_in 0 3 from (by unfold vp_in; decide)) dX8_back_17 ?_
  refine lv_topi (fun x_3 ex_3 => ?_)
  obtain rfl : x_3 = 0 := ex_3.trans (by decide +kernel)
  refine lv_if_ne (tgt := 24) hx hb dX8_back_18 (by decide) (fun c_4 => absurd (by decide) c_4) (fun c_4 => ?_)
  refine lv_bipush (v := (-6)) hx hb dX8_back_21 (by decide) ?_
  exact W.iret (v := (-6)) hx hb hr (fun t ht hW => ⟨⟨(-6), (), rfl, rfl, trivial⟩, hS.F ht⟩) hS.2.2 dX8_back_23
set_option maxHeartbeats 4000000 in
set_option maxRecDepth 100000 in
theorem x_keep1 (l : Launch) (dC : Nat → ClassId) (dI : Nat → Nat → Nat) (sz : Nat) (h0 : Nat) (x_tape : Nat) (x_reader : Nat) (x_current : Nat) (x_images : Nat) (x_kept : Nat) (x_slots : Nat) (x_diary : Nat) (x_base : Nat) (x_trial : Nat) (x_plan : Nat) (x_orders : Nat) (x_unanswered : Nat) (i0 : Nat) (i1 : Nat) (i2 : Nat) (ik : ClassId) (kk : ClassId) (kf : Nat → Int32) (t0 : Nat) (t1 : Nat) (t2 : Nat) (t3 : Nat) (t4 : Nat) (t5 : Nat) (t6 : Nat) (t7 : Nat) (t8 : Nat) (t9 : Nat) (u0 : Nat) (u1 : Nat) (u2 : Nat) (u3 : Nat) (u4 : Nat) (u5 : Nat) (u6 : Nat) (u7 : Nat) (u8 : Nat) (u9 : Nat) (tk0 : ClassId) (tk1 : ClassId) (tk2 : ClassId) (tk3 : ClassId) (tk4 : ClassId) (tk5 : ClassId) (tk6 : ClassId) (tk7 : ClassId) (tk8 : ClassId) (tk9 : ClassId) (tf0 : Nat → Int32) (tf1 : Nat → Int32) (tf2 : Nat → Int32) (tf3 : Nat → Int32) (tf4 : Nat → Int32) (tf5 : Nat → Int32) (tf6 : Nat → Int32) (tf7 : Nat → Int32) (tf8 : Nat → Int32) (tf9 : Nat → Int32) (uk0 : ClassId) (uk1 : ClassId) (uk2 : ClassId) (uk3 : ClassId) (uk4 : ClassId) (uk5 : ClassId) (uk6 : ClassId) (uk7 : ClassId) (uk8 : ClassId) (uk9 : ClassId) (uf0 : Nat → Int32) (uf1 : Nat → Int32) (uf2 : Nat → Int32) (uf3 : Nat → Int32) (uf4 : Nat → Int32) (uf5 : Nat → Int32) (uf6 : Nat → Int32) (uf7 : Nat → Int32) (uf8 : Nat → Int32) (uf9 : Nat → Int32)  : Met l yX8_keep (.code yX8_keep cX8_keep 2 (some .int) :: ALLW) ({ frames := 2, cells := 0, slots := 0, locals := 85 }) (va_Pc [.ref h0, .int 1] (fun U => U.heap.size = sz ∧ va_P (dC, dI) vwCl [(h0, .inr (8, [.ref x_tape, .ref x_reader, .ref x_current, .ref x_images, .ref x_kept, .ref x_slots, .ref x_diary, .ref x_base, .ref x_trial, .ref x_plan, .ref x_orders, .ref x_unanswered, .int 0, .int 0, .int (-1)])), (x_images, .inl (ik, 3, .inr (.inr (.inr (.inr (va_up (va_up (va_up (fun _ => none) 0 (some i0)) 1 (some i1)) 2 (some i2))))))), (x_kept, .inl (kk, 3, .inl kf)), (i1, .inr (7, [.int 0, .int 0, .int 0, .int 0, .int 0, .int 0, .int 0, .int 0, .ref t0, .ref t1, .ref t2, .ref t3, .ref t4, .ref t5, .ref t6, .ref t7, .ref t8, .ref t9])), (x_current, .inr (7, [.int 0, .int 0, .int 0, .int 0, .int 0, .int 0, .int 0, .int 0, .ref u0, .ref u1, .ref u2, .ref u3, .ref u4, .ref u5, .ref u6, .ref u7, .ref u8, .ref u9])), (t0, .inl (tk0, 8, .inl tf0)), (t1, .inl (tk1, 8, .inl tf1)), (t2, .inl (tk2, 8, .inl tf2)), (t3, .inl (tk3, 49, .inl tf3)), (t4, .inl (tk4, 49, .inl tf4)), (t5, .inl (tk5, 49, .inl tf5)), (t6, .inl (tk6, 49, .inl tf6)), (t7, .inl (tk7, 49, .inl tf7)), (t8, .inl (tk8, 49, .inl tf8)), (t9, .inl (tk9, 49, .inl tf9)), (u0, .inl (uk0, 8, .inl uf0)), (u1, .inl (uk1, 8, .inl uf1)), (u2, .inl (uk2, 8, .inl uf2)), (u3, .inl (uk3, 49, .inl uf3)), (u4, .inl (uk4, 49, .inl uf4)), (u5, .inl (uk5, 49, .inl uf5)), (u6, .inl (uk6, 49, .inl uf6)), (u7, .inl (uk7, 49, .inl uf7)), (u8, .inl (uk8, 49, .inl uf8)), (u9, .inl (uk9, 49, .inl uf9))] U.heap ∧ va_K (dC, dI) vwCl [(ik, .object RX7), (kk, .boolean), (tk0, .int), (tk1, .int), (tk2, .int), (tk3, .int), (tk4, .int), (tk5, .int), (tk6, .int), (tk7, .int), (tk8, .int), (tk9, .int), (uk0, .int), (uk1, .int), (uk2, .int), (uk3, .int), (uk4, .int), (uk5, .int), (uk6, .int), (uk7, .int), (uk8, .int), (uk9, .int)] U ∧ va_D (fun _ => True) [(h0, .inr (8, [.ref x_tape, .ref x_reader, .ref x_current, .ref x_images, .ref x_kept, .ref x_slots, .ref x_diary, .ref x_base, .ref x_trial, .ref x_plan, .ref x_orders, .ref x_unanswered, .int 0, .int 0, .int (-1)])), (x_images, .inl (ik, 3, .inr (.inr (.inr (.inr (va_up (va_up (va_up (fun _ => none) 0 (some i0)) 1 (some i1)) 2 (some i2))))))), (x_kept, .inl (kk, 3, .inl kf)), (i1, .inr (7, [.int 0, .int 0, .int 0, .int 0, .int 0, .int 0, .int 0, .int 0, .ref t0, .ref t1, .ref t2, .ref t3, .ref t4, .ref t5, .ref t6, .ref t7, .ref t8, .ref t9])), (x_current, .inr (7, [.int 0, .int 0, .int 0, .int 0, .int 0, .int 0, .int 0, .int 0, .ref u0, .ref u1, .ref u2, .ref u3, .ref u4, .ref u5, .ref u6, .ref u7, .ref u8, .ref u9])), (t0, .inl (tk0, 8, .inl tf0)), (t1, .inl (tk1, 8, .inl tf1)), (t2, .inl (tk2, 8, .inl tf2)), (t3, .inl (tk3, 49, .inl tf3)), (t4, .inl (tk4, 49, .inl tf4)), (t5, .inl (tk5, 49, .inl tf5)), (t6, .inl (tk6, 49, .inl tf6)), (t7, .inl (tk7, 49, .inl tf7)), (t8, .inl (tk8, 49, .inl tf8)), (t9, .inl (tk9, 49, .inl tf9)), (u0, .inl (uk0, 8, .inl uf0)), (u1, .inl (uk1, 8, .inl uf1)), (u2, .inl (uk2, 8, .inl uf2)), (u3, .inl (uk3, 49, .inl uf3)), (u4, .inl (uk4, 49, .inl uf4)), (u5, .inl (uk5, 49, .inl uf5)), (u6, .inl (uk6, 49, .inl uf6)), (u7, .inl (uk7, 49, .inl uf7)), (u8, .inl (uk8, 49, .inl uf8)), (u9, .inl (uk9, 49, .inl uf9))])) (va_Qi (fun (r : Int32) (_ : Unit) => r = 0) (fun (_ : Unit) (_ : State) => True) (va_A [(h0, .inr (8, [.ref x_tape, .ref x_reader, .ref x_current, .ref x_images, .ref x_kept, .ref x_slots, .ref x_diary, .ref x_base, .ref x_trial, .ref x_plan, .ref x_orders, .ref x_unanswered, .int 0, .int 0, .int (-1)])), (x_images, .inl (ik, 3, .inr (.inr (.inr (.inr (va_up (va_up (va_up (fun _ => none) 0 (some i0)) 1 (some i1)) 2 (some i2))))))), (x_kept, .inl (kk, 3, .inl kf)), (i1, .inr (7, [.int 0, .int 0, .int 0, .int 0, .int 0, .int 0, .int 0, .int 0, .ref t0, .ref t1, .ref t2, .ref t3, .ref t4, .ref t5, .ref t6, .ref t7, .ref t8, .ref t9])), (x_current, .inr (7, [.int 0, .int 0, .int 0, .int 0, .int 0, .int 0, .int 0, .int 0, .ref u0, .ref u1, .ref u2, .ref u3, .ref u4, .ref u5, .ref u6, .ref u7, .ref u8, .ref u9])), (t0, .inl (tk0, 8, .inl tf0)), (t1, .inl (tk1, 8, .inl tf1)), (t2, .inl (tk2, 8, .inl tf2)), (t3, .inl (tk3, 49, .inl tf3)), (t4, .inl (tk4, 49, .inl tf4)), (t5, .inl (tk5, 49, .inl tf5)), (t6, .inl (tk6, 49, .inl tf6)), (t7, .inl (tk7, 49, .inl tf7)), (t8, .inl (tk8, 49, .inl tf8)), (t9, .inl (tk9, 49, .inl tf9)), (u0, .inl (uk0, 8, .inl uf0)), (u1, .inl (uk1, 8, .inl uf1)), (u2, .inl (uk2, 8, .inl uf2)), (u3, .inl (uk3, 49, .inl uf3)), (u4, .inl (uk4, 49, .inl uf4)), (u5, .inl (uk5, 49, .inl uf5)), (u6, .inl (uk6, 49, .inl uf6)), (u7, .inl (uk7, 49, .inl uf7)), (u8, .inl (uk8, 49, .inl uf8)), (u9, .inl (uk9, 49, .inl uf9))] sz)) 0 0 (va_A [(h0, .inr (8, [.ref x_tape, .ref x_reader, .ref x_current, .ref x_images, .ref x_kept, .ref x_slots, .ref x_diary, .ref x_base, .ref x_trial, .ref x_plan, .ref x_orders, .ref x_unanswered, .int 0, .int 0, .int (-1)])), (x_images, .inl (ik, 3, .inr (.inr (.inr (.inr (va_up (va_up (va_up (fun _ => none) 0 (some i0)) 1 (some i1)) 2 (some i2))))))), (x_kept, .inl (kk, 3, .inl kf)), (i1, .inr (7, [.int 0, .int 0, .int 0, .int 0, .int 0, .int 0, .int 0, .int 0, .ref t0, .ref t1, .ref t2, .ref t3, .ref t4, .ref t5, .ref t6, .ref t7, .ref t8, .ref t9])), (x_current, .inr (7, [.int 0, .int 0, .int 0, .int 0, .int 0, .int 0, .int 0, .int 0, .ref u0, .ref u1, .ref u2, .ref u3, .ref u4, .ref u5, .ref u6, .ref u7, .ref u8, .ref u9])), (t0, .inl (tk0, 8, .inl tf0)), (t1, .inl (tk1, 8, .inl tf1)), (t2, .inl (tk2, 8, .inl tf2)), (t3, .inl (tk3, 49, .inl tf3)), (t4, .inl (tk4, 49, .inl tf4)), (t5, .inl (tk5, 49, .inl tf5)), (t6, .inl (tk6, 49, .inl tf6)), (t7, .inl (tk7, 49, .inl tf7)), (t8, .inl (tk8, 49, .inl tf8)), (t9, .inl (tk9, 49, .inl tf9)), (u0, .inl (uk0, 8, .inl uf0)), (u1, .inl (uk1, 8, .inl uf1)), (u2, .inl (uk2, 8, .inl uf2)), (u3, .inl (uk3, 49, .inl uf3)), (u4, .inl (uk4, 49, .inl uf4)), (u5, .inl (uk5, 49, .inl uf5)), (u6, .inl (uk6, 49, .inl uf6)), (u7, .inl (uk7, 49, .inl uf7)), (u8, .inl (uk8, 49, .inl uf8)), (u9, .inl (uk9, 49, .inl uf9))] sz) := by
  refine Met.ofW (cc := cX8_keep) (maxL := 2) (ret := (some .int)) (by decide) rfl ?_
  intro p e s m args below meth c s₁ B hml hv
  obtain ⟨rfl, hsz, hP, hK, hD0⟩ := hv
  have hx := B.exec
  have hb := B.bytes
  have hr := B.returns
  have hts0 := atoms_spec (ws := (.code yX8_keep cX8_keep 2 (some .int) :: ALLW)) B.pre
  have hts := fun (w : Cond) (h : w ∈ ALLW) => hts0 w (List.mem_cons_of_mem _ h)
  have hown : s.vm.findClass RX8 = some m.cls := findClass_of_methodNamed B.named
  have hlocks := B.notSynchronized
  subst hsz
  have hD := hD0.self (sz := s.heap.size)
  generalize hAe : va_A [(h0, .inr (8, [.ref x_tape, .ref x_reader, .ref x_current, .ref x_images, .ref x_kept, .ref x_slots, .ref x_diary, .ref x_base, .ref x_trial, .ref x_plan, .ref x_orders, .ref x_unanswered, .int 0, .int 0, .int (-1)])), (x_images, .inl (ik, 3, .inr (.inr (.inr (.inr (va_up (va_up (va_up (fun _ => none) 0 (some i0)) 1 (some i1)) 2 (some i2))))))), (x_kept, .inl (kk, 3, .inl kf)), (i1, .inr (7, [.int 0, .int 0, .int 0, .int 0, .int 0, .int 0, .int 0, .int 0, .ref t0, .ref t1, .ref t2, .ref t3, .ref t4, .ref t5, .ref t6, .ref t7, .ref t8, .ref t9])), (x_current, .inr (7, [.int 0, .int 0, .int 0, .int 0, .int 0, .int 0, .int 0, .int 0, .ref u0, .ref u1, .ref u2, .ref u3, .ref u4, .ref u5, .ref u6, .ref u7, .ref u8, .ref u9])), (t0, .inl (tk0, 8, .inl tf0)), (t1, .inl (tk1, 8, .inl tf1)), (t2, .inl (tk2, 8, .inl tf2)), (t3, .inl (tk3, 49, .inl tf3)), (t4, .inl (tk4, 49, .inl tf4)), (t5, .inl (tk5, 49, .inl tf5)), (t6, .inl (tk6, 49, .inl tf6)), (t7, .inl (tk7, 49, .inl tf7)), (t8, .inl (tk8, 49, .inl tf8)), (t9, .inl (tk9, 49, .inl tf9)), (u0, .inl (uk0, 8, .inl uf0)), (u1, .inl (uk1, 8, .inl uf1)), (u2, .inl (uk2, 8, .inl uf2)), (u3, .inl (uk3, 49, .inl uf3)), (u4, .inl (uk4, 49, .inl uf4)), (u5, .inl (uk5, 49, .inl uf5)), (u6, .inl (uk6, 49, .inl uf6)), (u7, .inl (uk7, 49, .inl uf7)), (u8, .inl (uk8, 49, .inl uf8)), (u9, .inl (uk9, 49, .inl uf9))] s.heap.size = A at hD ⊢
  have hA : ∀ q : Nat, s.heap.size ≤ q → A q := fun q h => by rw [← hAe]; exact Or.inr h
  have hS : va_S A s.heap s.heap [] := va_S.rf
  have hP : va_P (dC, dI) vwCl [(h0, .inr (8, [.ref x_tape, .ref x_reader, .ref x_current, .ref x_images, .ref x_kept, .ref x_slots, .ref x_diary, .ref x_base, .ref x_trial, .ref x_plan, .ref x_orders, .ref x_unanswered, .int 0, .int 0, .int (-1)])), (x_images, .inl (ik, 3, .inr (.inr (.inr (.inr (va_up (va_up (va_up (fun _ => none) 0 (some i0)) 1 (some i1)) 2 (some i2))))))), (x_kept, .inl (kk, 3, .inl kf)), (i1, .inr (7, [.int 0, .int 0, .int 0, .int 0, .int 0, .int 0, .int 0, .int 0, .ref t0, .ref t1, .ref t2, .ref t3, .ref t4, .ref t5, .ref t6, .ref t7, .ref t8, .ref t9])), (x_current, .inr (7, [.int 0, .int 0, .int 0, .int 0, .int 0, .int 0, .int 0, .int 0, .ref u0, .ref u1, .ref u2, .ref u3, .ref u4, .ref u5, .ref u6, .ref u7, .ref u8, .ref u9])), (t0, .inl (tk0, 8, .inl tf0)), (t1, .inl (tk1, 8, .inl tf1)), (t2, .inl (tk2, 8, .inl tf2)), (t3, .inl (tk3, 49, .inl tf3)), (t4, .inl (tk4, 49, .inl tf4)), (t5, .inl (tk5, 49, .inl tf5)), (t6, .inl (tk6, 49, .inl tf6)), (t7, .inl (tk7, 49, .inl tf7)), (t8, .inl (tk8, 49, .inl tf8)), (t9, .inl (tk9, 49, .inl tf9)), (u0, .inl (uk0, 8, .inl uf0)), (u1, .inl (uk1, 8, .inl uf1)), (u2, .inl (uk2, 8, .inl uf2)), (u3, .inl (uk3, 49, .inl uf3)), (u4, .inl (uk4, 49, .inl uf4)), (u5, .inl (uk5, 49, .inl uf5)), (u6, .inl (uk6, 49, .inl uf6)), (u7, .inl (uk7, 49, .inl uf7)), (u8, .inl (uk8, 49, .inl uf8)), (u9, .inl (uk9, 49, .inl uf9))] s.heap := hP
  have hl := lv_entry ([.ref h0, .int 1]) (n := 2) (Nat.le_of_ble_eq_true rfl)
  rw [lg_entry_eq]
  generalize (lg_sl ([.ref h0, .int 1]) ++ List.replicate (2 - (lg_sl ([.ref h0, .int 1])).length) Slot.unset).toArray = ls at hl ⊢
  have hl : lv_has ls 2 [(0, .ref h0), (1, .int 1)] := hl
  refine lv_iload_n hx hb dX8_keep_0 rfl (lv_at hl 1 rfl) ?_
  refine lv_if_lt (tgt := 9) hx hb dX8_keep_1 (by decide) (fun c_1 => absurd c_1 (by decide)) (fun c_1 => ?_)
  refine lv_iload_n hx hb dX8_keep_4 rfl (lv_at hl 1 rfl) ?_
  refine lv_iconst (v := 3) hx hb dX8_keep_5 (by decide) ?_
  refine lv_icmp_lt (tgt := 12) hx hb dX8_keep_6 (by decide) (fun c_2 => ?_) (fun c_2 => absurd (by decide) c_2)
  refine lv_aload_n hx hb dX8_keep_12 rfl (lv_at hl 0 rfl) ?_
  refine va_get (D := (dC, dI)) (ci := 8) (v := .ref x_images) (C := RX8) (T := TX8) (N := 15) hx hb hts inA8 hown hK hP 0 rfl rfl 3 (by decide) (hts _ w_25) (fun _ h9 => h9) rfl dX8_keep_13 ?_
  refine lv_iload_n hx hb dX8_keep_16 rfl (lv_at hl 1 rfl) ?_
  refine va_aldq hx hb hK hP 1 0 rfl rfl (show vp_in 1 3 from (by unfold vp_in; decide)) dX8_keep_17 ?_
  refine W.eq (g2 := F0 m 18 ls [.ref i1]) rfl ?_
  refine lv_aload_n hx hb dX8_keep_18 rfl (lv_at hl 0 rfl) ?_
  refine va_get (D := (dC, dI)) (ci := 8) (v := .ref x_current) (C := RX8) (T := TX8) (N := 15) hx hb hts inA8 hown hK hP 0 rfl rfl 2 (by decide) (hts _ w_24) (fun _ h9 => h9) rfl dX8_keep_19 ?_
  have hPc := hP.sub (ws' := [(i1, .inr (7, [.int 0, .int 0, .int 0, .int 0, .int 0, .int 0, .int 0, .int 0, .ref t0, .ref t1, .ref t2, .ref t3, .ref t4, .ref t5, .ref t6, .ref t7, .ref t8, .ref t9])), (x_current, .inr (7, [.int 0, .int 0, .int 0, .int 0, .int 0, .int 0, .int 0, .int 0, .ref u0, .ref u1, .ref u2, .ref u3, .ref u4, .ref u5, .ref u6, .ref u7, .ref u8, .ref u9])), (t0, .inl (tk0, 8, .inl tf0)), (t1, .inl (tk1, 8, .inl tf1)), (t2, .inl (tk2, 8, .inl tf2)), (t3, .inl (tk3, 49, .inl tf3)), (t4, .inl (tk4, 49, .inl tf4)), (t5, .inl (tk5, 49, .inl tf5)), (t6, .inl (tk6, 49, .inl tf6)), (t7, .inl (tk7, 49, .inl tf7)), (t8, .inl (tk8, 49, .inl tf8)), (t9, .inl (tk9, 49, .inl tf9)), (u0, .inl (uk0, 8, .inl uf0)), (u1, .inl (uk1, 8, .inl uf1)), (u2, .inl (uk2, 8, .inl uf2)), (u3, .inl (uk3, 49, .inl uf3)), (u4, .inl (uk4, 49, .inl uf4)), (u5, .inl (uk5, 49, .inl uf5)), (u6, .inl (uk6, 49, .inl uf6)), (u7, .inl (uk7, 49, .inl uf7)), (u8, .inl (uk8, 49, .inl uf8)), (u9, .inl (uk9, 49, .inl uf9))]) [3, 4, 5, 6, 7, 8, 9, 10, 11, 12, 13, 14, 15, 16, 17, 18, 19, 20, 21, 22, 23, 24] rfl
  have hDc := hD.sub (ws' := [(i1, .inr (7, [.int 0, .int 0, .int 0, .int 0, .int 0, .int 0, .int 0, .int 0, .ref t0, .ref t1, .ref t2, .ref t3, .ref t4, .ref t5, .ref t6, .ref t7, .ref t8, .ref t9])), (x_current, .inr (7, [.int 0, .int 0, .int 0, .int 0, .int 0, .int 0, .int 0, .int 0, .ref u0, .ref u1, .ref u2, .ref u3, .ref u4, .ref u5, .ref u6, .ref u7, .ref u8, .ref u9])), (t0, .inl (tk0, 8, .inl tf0)), (t1, .inl (tk1, 8, .inl tf1)), (t2, .inl (tk2, 8, .inl tf2)), (t3, .inl (tk3, 49, .inl tf3)), (t4, .inl (tk4, 49, .inl tf4)), (t5, .inl (tk5, 49, .inl tf5)), (t6, .inl (tk6, 49, .inl tf6)), (t7, .inl (tk7, 49, .inl tf7)), (t8, .inl (tk8, 49, .inl tf8)), (t9, .inl (tk9, 49, .inl tf9)), (u0, .inl (uk0, 8, .inl uf0)), (u1, .inl (uk1, 8, .inl uf1)), (u2, .inl (uk2, 8, .inl uf2)), (u3, .inl (uk3, 49, .inl uf3)), (u4, .inl (uk4, 49, .inl uf4)), (u5, .inl (uk5, 49, .inl uf5)), (u6, .inl (uk6, 49, .inl uf6)), (u7, .inl (uk7, 49, .inl uf7)), (u8, .inl (uk8, 49, .inl uf8)), (u9, .inl (uk9, 49, .inl uf9))]) [3, 4, 5, 6, 7, 8, 9, 10, 11, 12, 13, 14, 15, 16, 17, 18, 19, 20, 21, 22, 23, 24] (by decide) rfl
  have hKc := hK.sub (tys' := [(tk0, .int), (tk1, .int), (tk2, .int), (tk3, .int), (tk4, .int), (tk5, .int), (tk6, .int), (tk7, .int), (tk8, .int), (tk9, .int), (uk0, .int), (uk1, .int), (uk2, .int), (uk3, .int), (uk4, .int), (uk5, .int), (uk6, .int), (uk7, .int), (uk8, .int), (uk9, .int)]) [2, 3, 4, 5, 6, 7, 8, 9, 10, 11, 12, 13, 14, 15, 16, 17, 18, 19, 20, 21] rfl
  have hFc := va_free (wc := [(i1, .inr (7, [.int 0, .int 0, .int 0, .int 0, .int 0, .int 0, .int 0, .int 0, .ref t0, .ref t1, .ref t2, .ref t3, .ref t4, .ref t5, .ref t6, .ref t7, .ref t8, .ref t9])), (x_current, .inr (7, [.int 0, .int 0, .int 0, .int 0, .int 0, .int 0, .int 0, .int 0, .ref u0, .ref u1, .ref u2, .ref u3, .ref u4, .ref u5, .ref u6, .ref u7, .ref u8, .ref u9])), (t0, .inl (tk0, 8, .inl tf0)), (t1, .inl (tk1, 8, .inl tf1)), (t2, .inl (tk2, 8, .inl tf2)), (t3, .inl (tk3, 49, .inl tf3)), (t4, .inl (tk4, 49, .inl tf4)), (t5, .inl (tk5, 49, .inl tf5)), (t6, .inl (tk6, 49, .inl tf6)), (t7, .inl (tk7, 49, .inl tf7)), (t8, .inl (tk8, 49, .inl tf8)), (t9, .inl (tk9, 49, .inl tf9)), (u0, .inl (uk0, 8, .inl uf0)), (u1, .inl (uk1, 8, .inl uf1)), (u2, .inl (uk2, 8, .inl uf2)), (u3, .inl (uk3, 49, .inl uf3)), (u4, .inl (uk4, 49, .inl uf4)), (u5, .inl (uk5, 49, .inl uf5)), (u6, .inl (uk6, 49, .inl uf6)), (u7, .inl (uk7, 49, .inl uf7)), (u8, .inl (uk8, 49, .inl uf8)), (u9, .inl (uk9, 49, .inl uf9))]) hD hS hA [3, 4, 5, 6, 7, 8, 9, 10, 11, 12, 13, 14, 15, 16, 17, 18, 19, 20, 21, 22, 23, 24] rfl
  refine va_callv (va_runV (As := [.ref x_current]) (rest := []) ⟨hx, hb, hml, hown, hts⟩ (c_copyFrom l dC dI s.heap.size i1 x_current t0 t1 t2 t3 t4 t5 t6 t7 t8 t9 u0 u1 u2 u3 u4 u5 u6 u7 u8 u9 tk0 tk1 tk2 tk3 tk4 tk5 tk6 tk7 tk8 tk9 tf0 tf1 tf2 tf3 tf4 tf5 tf6 tf7 tf8 tf9 uk0 uk1 uk2 uk3 uk4 uk5 uk6 uk7 uk8 uk9 uf0 uf1 uf2 uf3 uf4 uf5 uf6 uf7 uf8 uf9 ) (cwV 1 hts (goodV w_385 w_386 w_387 w_23 w_388) rfl rfl rfl hdV_X7_copyFrom ⟨Nat.le_of_ble_eq_true rfl, Nat.le_of_ble_eq_true rfl⟩) ⟨fun a U g mk q => by obtain ⟨q0, q1, qP, qK, qD⟩ := q; exact ⟨q0, q1, qP, va_K.moved (u := U) (U := U.calling g mk a) (Vm.Alike.refl U.vm) qK, qD⟩, va_recv hKc hPc (ci := 7) (q0 := 0) rfl rfl, fun U hU hW => ⟨rfl, by rw [hU], by rw [hU]; exact hPc, va_K.moved hW.alike hKc, hDc.weaken (fun _ _ _ _ => trivial)⟩⟩ rfl rfl hl.1 rfl (lv_room (Nat.le_of_ble_eq_true rfl)) dX8_keep_22 ⟨Nat.le_of_ble_eq_true rfl, Nat.le_of_ble_eq_true rfl⟩) hS (fun q _ h => hFc q h) hFc (fun  u t H1 locs ht hvm hw hB hz1 hk1 hS => ?_)
  obtain ⟨hP1, hK1, hD1⟩ := hB
  rw [ht] at hP1
  have hK1 := va_K.moved hvm.symm hK1
  obtain ⟨hP, hD⟩ := va_join (wr := [(h0, .inr (8, [.ref x_tape, .ref x_reader, .ref x_current, .ref x_images, .ref x_kept, .ref x_slots, .ref x_diary, .ref x_base, .ref x_trial, .ref x_plan, .ref x_orders, .ref x_unanswered, .int 0, .int 0, .int (-1)])), (x_images, .inl (ik, 3, .inr (.inr (.inr (.inr (va_up (va_up (va_up (fun _ => none) 0 (some i0)) 1 (some i1)) 2 (some i2))))))), (x_kept, .inl (kk, 3, .inl kf))]) (w1 := [(i1, .inr (7, [.int 0, .int 0, .int 0, .int 0, .int 0, .int 0, .int 0, .int 0, .ref t0, .ref t1, .ref t2, .ref t3, .ref t4, .ref t5, .ref t6, .ref t7, .ref t8, .ref t9]))]) hP hD [3, 4, 5, 6, 7, 8, 9, 10, 11, 12, 13, 14, 15, 16, 17, 18, 19, 20, 21, 22, 23, 24] [0, 1, 2] rfl rfl (by decide) (by decide) hk1 hFc hP1 hD1
  clear hPc hDc hKc hFc
  generalize H1 = H at hP hS ⊢
  have hP : va_P (dC, dI) vwCl [(h0, .inr (8, [.ref x_tape, .ref x_reader, .ref x_current, .ref x_images, .ref x_kept, .ref x_slots, .ref x_diary, .ref x_base, .ref x_trial, .ref x_plan, .ref x_orders, .ref x_unanswered, .int 0, .int 0, .int (-1)])), (x_images, .inl (ik, 3, .inr (.inr (.inr (.inr (va_up (va_up (va_up (fun _ => none) 0 (some i0)) 1 (some i1)) 2 (some i2))))))), (x_kept, .inl (kk, 3, .inl kf)), (i1, .inr (7, [.int 0, .int 0, .int 0, .int 0, .int 0, .int 0, .int 0, .int 0, .ref t0, .ref t1, .ref t2, .ref t3, .ref t4, .ref t5, .ref t6, .ref t7, .ref t8, .ref t9]))] H := hP
  have hD : va_D A [(h0, .inr (8, [.ref x_tape, .ref x_reader, .ref x_current, .ref x_images, .ref x_kept, .ref x_slots, .ref x_diary, .ref x_base, .ref x_trial, .ref x_plan, .ref x_orders, .ref x_unanswered, .int 0, .int 0, .int (-1)])), (x_images, .inl (ik, 3, .inr (.inr (.inr (.inr (va_up (va_up (va_up (fun _ => none) 0 (some i0)) 1 (some i1)) 2 (some i2))))))), (x_kept, .inl (kk, 3, .inl kf)), (i1, .inr (7, [.int 0, .int 0, .int 0, .int 0, .int 0, .int 0, .int 0, .int 0, .ref t0, .ref t1, .ref t2, .ref t3, .ref t4, .ref t5, .ref t6, .ref t7, .ref t8, .ref t9]))] := hD
  refine lv_aload_n hx hb dX8_keep_25 rfl (lv_at hl 0 rfl) ?_
  refine va_get (D := (dC, dI)) (ci := 8) (v := .ref x_kept) (C := RX8) (T := TX8) (N := 15) hx hb hts inA8 hown hK hP 0 rfl rfl 4 (by decide) (hts _ w_27) (fun _ h9 => h9) rfl dX8_keep_26 ?_
  refine lv_iload_n hx hb dX8_keep_29 rfl (lv_at hl 1 rfl) ?_
  refine lv_iconst (v := 1) hx hb dX8_keep_30 (by decide) ?_
  refine va_zast hx hb hK hP hD hS 2 1 rfl rfl (show vp_in 1 3 from (by unfold vp_in; decide)) dX8_keep_31 (fun H locs hP hD hS => ?_)
  rw [show (1 : Int32).toNatClampNeg = 1 from by decide] at hP hD
  generalize upd (kf) 1 (vp_nar .boolean 1) = f_3 at hP hD
  have hP : va_P (dC, dI) vwCl [(h0, .inr (8, [.ref x_tape, .ref x_reader, .ref x_current, .ref x_images, .ref x_kept, .ref x_slots, .ref x_diary, .ref x_base, .ref x_trial, .ref x_plan, .ref x_orders, .ref x_unanswered, .int 0, .int 0, .int (-1)])), (x_images, .inl (ik, 3, .inr (.inr (.inr (.inr (va_up (va_up (va_up (fun _ => none) 0 (some i0)) 1 (some i1)) 2 (some i2))))))), (x_kept, .inl (kk, 3, .inl f_3)), (i1, .inr (7, [.int 0, .int 0, .int 0, .int 0, .int 0, .int 0, .int 0, .int 0, .ref t0, .ref t1, .ref t2, .ref t3, .ref t4, .ref t5, .ref t6, .ref t7, .ref t8, .ref t9]))] H := hP
  have hD : va_D A [(h0, .inr (8, [.ref x_tape, .ref x_reader, .ref x_current, .ref x_images, .ref x_kept, .ref x_slots, .ref x_diary, .ref x_base, .ref x_trial, .ref x_plan, .ref x_orders, .ref x_unanswered, .int 0, .int 0, .int (-1)])), (x_images, .inl (ik, 3, .inr (.inr (.inr (.inr (va_up (va_up (va_up (fun _ => none) 0 (some i0)) 1 (some i1)) 2 (some i2))))))), (x_kept, .inl (kk, 3, .inl f_3)), (i1, .inr (7, [.int 0, .int 0, .int 0, .int 0, .int 0, .int 0, .int 0, .int 0, .ref t0, .ref t1, .ref t2, .ref t3, .ref t4, .ref t5, .ref t6, .ref t7, .ref t8, .ref t9]))] := hD
  refine lv_iconst (v := 0) hx hb dX8_keep_32 (by decide) ?_
  exact W.iret (v := 0) hx hb hr (fun t ht hW => ⟨⟨0, (), rfl, rfl, trivial⟩, hS.F ht⟩) hS.2.2 dX8_keep_33
set_option maxHeartbeats 4000000 in
set_option maxRecDepth 100000 in
theorem x_back1 (l : Launch) (dC : Nat → ClassId) (dI : Nat → Nat → Nat) (sz : Nat) (h0 : Nat) (x_tape : Nat) (x_reader : Nat) (x_current : Nat) (x_images : Nat) (x_kept : Nat) (x_slots : Nat) (x_diary : Nat) (x_base : Nat) (x_trial : Nat) (x_plan : Nat) (x_orders : Nat) (x_unanswered : Nat) (kk : ClassId)  : Met l yX8_back (.code yX8_back cX8_back 2 (some .int) :: ALLW) ({ frames := 0, cells := 0, slots := 0, locals := 0 }) (va_Pc [.ref h0, .int 1] (fun U => U.heap.size = sz ∧ va_P (dC, dI) vwCl [(h0, .inr (8, [.ref x_tape, .ref x_reader, .ref x_current, .ref x_images, .ref x_kept, .ref x_slots, .ref x_diary, .ref x_base, .ref x_trial, .ref x_plan, .ref x_orders, .ref x_unanswered, .int 0, .int 0, .int (-1)])), (x_kept, .inl (kk, 3, .inl (fun _ => 0)))] U.heap ∧ va_K (dC, dI) vwCl [(kk, .boolean)] U ∧ va_D (fun _ => True) [(h0, .inr (8, [.ref x_tape, .ref x_reader, .ref x_current, .ref x_images, .ref x_kept, .ref x_slots, .ref x_diary, .ref x_base, .ref x_trial, .ref x_plan, .ref x_orders, .ref x_unanswered, .int 0, .int 0, .int (-1)])), (x_kept, .inl (kk, 3, .inl (fun _ => 0)))])) (va_Qi (fun (r : Int32) (_ : Unit) => r = (-6)) (fun (_ : Unit) (_ : State) => True) (va_A [(h0, .inr (8, [.ref x_tape, .ref x_reader, .ref x_current, .ref x_images, .ref x_kept, .ref x_slots, .ref x_diary, .ref x_base, .ref x_trial, .ref x_plan, .ref x_orders, .ref x_unanswered, .int 0, .int 0, .int (-1)])), (x_kept, .inl (kk, 3, .inl (fun _ => 0)))] sz)) 0 0 (va_A [(h0, .inr (8, [.ref x_tape, .ref x_reader, .ref x_current, .ref x_images, .ref x_kept, .ref x_slots, .ref x_diary, .ref x_base, .ref x_trial, .ref x_plan, .ref x_orders, .ref x_unanswered, .int 0, .int 0, .int (-1)])), (x_kept, .inl (kk, 3, .inl (fun _ => 0)))] sz) := by
  refine Met.ofW (cc := cX8_back) (maxL := 2) (ret := (some .int)) (by decide) rfl ?_
  intro p e s m args below meth c s₁ B hml hv
  obtain ⟨rfl, hsz, hP, hK, hD0⟩ := hv
  have hx := B.exec
  have hb := B.bytes
  have hr := B.returns
  have hts0 := atoms_spec (ws := (.code yX8_back cX8_back 2 (some .int) :: ALLW)) B.pre
  have hts := fun (w : Cond) (h : w ∈ ALLW) => hts0 w (List.mem_cons_of_mem _ h)
  have hown : s.vm.findClass RX8 = some m.cls := findClass_of_methodNamed B.named
  have hlocks := B.notSynchronized
  subst hsz
  have hD := hD0.self (sz := s.heap.size)
  generalize hAe : va_A [(h0, .inr (8, [.ref x_tape, .ref x_reader, .ref x_current, .ref x_images, .ref x_kept, .ref x_slots, .ref x_diary, .ref x_base, .ref x_trial, .ref x_plan, .ref x_orders, .ref x_unanswered, .int 0, .int 0, .int (-1)])), (x_kept, .inl (kk, 3, .inl (fun _ => 0)))] s.heap.size = A at hD ⊢
  have hA : ∀ q : Nat, s.heap.size ≤ q → A q := fun q h => by rw [← hAe]; exact Or.inr h
  have hS : va_S A s.heap s.heap [] := va_S.rf
  have hP : va_P (dC, dI) vwCl [(h0, .inr (8, [.ref x_tape, .ref x_reader, .ref x_current, .ref x_images, .ref x_kept, .ref x_slots, .ref x_diary, .ref x_base, .ref x_trial, .ref x_plan, .ref x_orders, .ref x_unanswered, .int 0, .int 0, .int (-1)])), (x_kept, .inl (kk, 3, .inl (fun _ => 0)))] s.heap := hP
  have hl := lv_entry ([.ref h0, .int 1]) (n := 2) (Nat.le_of_ble_eq_true rfl)
  rw [lg_entry_eq]
  generalize (lg_sl ([.ref h0, .int 1]) ++ List.replicate (2 - (lg_sl ([.ref h0, .int 1])).length) Slot.unset).toArray = ls at hl ⊢
  have hl : lv_has ls 2 [(0, .ref h0), (1, .int 1)] := hl
  refine lv_iload_n hx hb dX8_back_0 rfl (lv_at hl 1 rfl) ?_
  refine lv_if_lt (tgt := 9) hx hb dX8_back_1 (by decide) (fun c_1 => absurd c_1 (by decide)) (fun c_1 => ?_)
  refine lv_iload_n hx hb dX8_back_4 rfl (lv_at hl 1 rfl) ?_
  refine lv_iconst (v := 3) hx hb dX8_back_5 (by decide) ?_
  refine lv_icmp_lt (tgt := 12) hx hb dX8_back_6 (by decide) (fun c_2 => ?_) (fun c_2 => absurd (by decide) c_2)
  refine lv_aload_n hx hb dX8_back_12 rfl (lv_at hl 0 rfl) ?_
  refine va_get (D := (dC, dI)) (ci := 8) (v := .ref x_kept) (C := RX8) (T := TX8) (N := 15) hx hb hts inA8 hown hK hP 0 rfl rfl 4 (by decide) (hts _ w_27) (fun _ h9 => h9) rfl dX8_back_13 ?_
  refine lv_iload_n hx hb dX8_back_16 rfl (lv_at hl 1 rfl) ?_
  refine va_zald hx hb hK hP 1 0 rfl rfl (show vp_in 1 3 from (by unfold vp_in; decide)) dX8_back_17 ?_
  refine lv_topi (fun x_3 ex_3 => ?_)
  obtain rfl : x_3 = 0 := ex_3.trans (by decide +kernel)
  refine lv_if_ne (tgt := 24) hx hb dX8_back_18 (by decide) (fun c_4 => absurd (by decide) c_4) (fun c_4 => ?_)
  refine lv_bipush (v := (-6)) hx hb dX8_back_21 (by decide) ?_
  exact W.iret (v := (-6)) hx hb hr (fun t ht hW => ⟨⟨(-6), (), rfl, rfl, trivial⟩, hS.F ht⟩) hS.2.2 dX8_back_23
set_option maxHeartbeats 4000000 in
set_option maxRecDepth 100000 in
theorem x_keep2 (l : Launch) (dC : Nat → ClassId) (dI : Nat → Nat → Nat) (sz : Nat) (h0 : Nat) (x_tape : Nat) (x_reader : Nat) (x_current : Nat) (x_images : Nat) (x_kept : Nat) (x_slots : Nat) (x_diary : Nat) (x_base : Nat) (x_trial : Nat) (x_plan : Nat) (x_orders : Nat) (x_unanswered : Nat) (i0 : Nat) (i1 : Nat) (i2 : Nat) (ik : ClassId) (kk : ClassId) (kf : Nat → Int32) (t0 : Nat) (t1 : Nat) (t2 : Nat) (t3 : Nat) (t4 : Nat) (t5 : Nat) (t6 : Nat) (t7 : Nat) (t8 : Nat) (t9 : Nat) (u0 : Nat) (u1 : Nat) (u2 : Nat) (u3 : Nat) (u4 : Nat) (u5 : Nat) (u6 : Nat) (u7 : Nat) (u8 : Nat) (u9 : Nat) (tk0 : ClassId) (tk1 : ClassId) (tk2 : ClassId) (tk3 : ClassId) (tk4 : ClassId) (tk5 : ClassId) (tk6 : ClassId) (tk7 : ClassId) (tk8 : ClassId) (tk9 : ClassId) (tf0 : Nat → Int32) (tf1 : Nat → Int32) (tf2 : Nat → Int32) (tf3 : Nat → Int32) (tf4 : Nat → Int32) (tf5 : Nat → Int32) (tf6 : Nat → Int32) (tf7 : Nat → Int32) (tf8 : Nat → Int32) (tf9 : Nat → Int32) (uk0 : ClassId) (uk1 : ClassId) (uk2 : ClassId) (uk3 : ClassId) (uk4 : ClassId) (uk5 : ClassId) (uk6 : ClassId) (uk7 : ClassId) (uk8 : ClassId) (uk9 : ClassId) (uf0 : Nat → Int32) (uf1 : Nat → Int32) (uf2 : Nat → Int32) (uf3 : Nat → Int32) (uf4 : Nat → Int32) (uf5 : Nat → Int32) (uf6 : Nat → Int32) (uf7 : Nat → Int32) (uf8 : Nat → Int32) (uf9 : Nat → Int32)  : Met l yX8_keep (.code yX8_keep cX8_keep 2 (some .int) :: ALLW) ({ frames := 2, cells := 0, slots := 0, locals := 85 }) (va_Pc [.ref h0, .int 2] (fun U => U.heap.size = sz ∧ va_P (dC, dI) vwCl [(h0, .inr (8, [.ref x_tape, .ref x_reader, .ref x_current, .ref x_images, .ref x_kept, .ref x_slots, .ref x_diary, .ref x_base, .ref x_trial, .ref x_plan, .ref x_orders, .ref x_unanswered, .int 0, .int 0, .int (-1)])), (x_images, .inl (ik, 3, .inr (.inr (.inr (.inr (va_up (va_up (va_up (fun _ => none) 0 (some i0)) 1 (some i1)) 2 (some i2))))))), (x_kept, .inl (kk, 3, .inl kf)), (i2, .inr (7, [.int 0, .int 0, .int 0, .int 0, .int 0, .int 0, .int 0, .int 0, .ref t0, .ref t1, .ref t2, .ref t3, .ref t4, .ref t5, .ref t6, .ref t7, .ref t8, .ref t9])), (x_current, .inr (7, [.int 0, .int 0, .int 0, .int 0, .int 0, .int 0, .int 0, .int 0, .ref u0, .ref u1, .ref u2, .ref u3, .ref u4, .ref u5, .ref u6, .ref u7, .ref u8, .ref u9])), (t0, .inl (tk0, 8, .inl tf0)), (t1, .inl (tk1, 8, .inl tf1)), (t2, .inl (tk2, 8, .inl tf2)), (t3, .inl (tk3, 49, .inl tf3)), (t4, .inl (tk4, 49, .inl tf4)), (t5, .inl (tk5, 49, .inl tf5)), (t6, .inl (tk6, 49, .inl tf6)), (t7, .inl (tk7, 49, .inl tf7)), (t8, .inl (tk8, 49, .inl tf8)), (t9, .inl (tk9, 49, .inl tf9)), (u0, .inl (uk0, 8, .inl uf0)), (u1, .inl (uk1, 8, .inl uf1)), (u2, .inl (uk2, 8, .inl uf2)), (u3, .inl (uk3, 49, .inl uf3)), (u4, .inl (uk4, 49, .inl uf4)), (u5, .inl (uk5, 49, .inl uf5)), (u6, .inl (uk6, 49, .inl uf6)), (u7, .inl (uk7, 49, .inl uf7)), (u8, .inl (uk8, 49, .inl uf8)), (u9, .inl (uk9, 49, .inl uf9))] U.heap ∧ va_K (dC, dI) vwCl [(ik, .object RX7), (kk, .boolean), (tk0, .int), (tk1, .int), (tk2, .int), (tk3, .int), (tk4, .int), (tk5, .int), (tk6, .int), (tk7, .int), (tk8, .int), (tk9, .int), (uk0, .int), (uk1, .int), (uk2, .int), (uk3, .int), (uk4, .int), (uk5, .int), (uk6, .int), (uk7, .int), (uk8, .int), (uk9, .int)] U ∧ va_D (fun _ => True) [(h0, .inr (8, [.ref x_tape, .ref x_reader, .ref x_current, .ref x_images, .ref x_kept, .ref x_slots, .ref x_diary, .ref x_base, .ref x_trial, .ref x_plan, .ref x_orders, .ref x_unanswered, .int 0, .int 0, .int (-1)])), (x_images, .inl (ik, 3, .inr (.inr (.inr (.inr (va_up (va_up (va_up (fun _ => none) 0 (some i0)) 1 (some i1)) 2 (some i2))))))), (x_kept, .inl (kk, 3, .inl kf)), (i2, .inr (7, [.int 0, .int 0, .int 0, .int 0, .int 0, .int 0, .int 0, .int 0, .ref t0, .ref t1, .ref t2, .ref t3, .ref t4, .ref t5, .ref t6, .ref t7, .ref t8, .ref t9])), (x_current, .inr (7, [.int 0, .int 0, .int 0, .int 0, .int 0, .int 0, .int 0, .int 0, .ref u0, .ref u1, .ref u2, .ref u3, .ref u4, .ref u5, .ref u6, .ref u7, .ref u8, .ref u9])), (t0, .inl (tk0, 8, .inl tf0)), (t1, .inl (tk1, 8, .inl tf1)), (t2, .inl (tk2, 8, .inl tf2)), (t3, .inl (tk3, 49, .inl tf3)), (t4, .inl (tk4, 49, .inl tf4)), (t5, .inl (tk5, 49, .inl tf5)), (t6, .inl (tk6, 49, .inl tf6)), (t7, .inl (tk7, 49, .inl tf7)), (t8, .inl (tk8, 49, .inl tf8)), (t9, .inl (tk9, 49, .inl tf9)), (u0, .inl (uk0, 8, .inl uf0)), (u1, .inl (uk1, 8, .inl uf1)), (u2, .inl (uk2, 8, .inl uf2)), (u3, .inl (uk3, 49, .inl uf3)), (u4, .inl (uk4, 49, .inl uf4)), (u5, .inl (uk5, 49, .inl uf5)), (u6, .inl (uk6, 49, .inl uf6)), (u7, .inl (uk7, 49, .inl uf7)), (u8, .inl (uk8, 49, .inl uf8)), (u9, .inl (uk9, 49, .inl uf9))])) (va_Qi (fun (r : Int32) (_ : Unit) => r = 0) (fun (_ : Unit) (_ : State) => True) (va_A [(h0, .inr (8, [.ref x_tape, .ref x_reader, .ref x_current, .ref x_images, .ref x_kept, .ref x_slots, .ref x_diary, .ref x_base, .ref x_trial, .ref x_plan, .ref x_orders, .ref x_unanswered, .int 0, .int 0, .int (-1)])), (x_images, .inl (ik, 3, .inr (.inr (.inr (.inr (va_up (va_up (va_up (fun _ => none) 0 (some i0)) 1 (some i1)) 2 (some i2))))))), (x_kept, .inl (kk, 3, .inl kf)), (i2, .inr (7, [.int 0, .int 0, .int 0, .int 0, .int 0, .int 0, .int 0, .int 0, .ref t0, .ref t1, .ref t2, .ref t3, .ref t4, .ref t5, .ref t6, .ref t7, .ref t8, .ref t9])), (x_current, .inr (7, [.int 0, .int 0, .int 0, .int 0, .int 0, .int 0, .int 0, .int 0, .ref u0, .ref u1, .ref u2, .ref u3, .ref u4, .ref u5, .ref u6, .ref u7, .ref u8, .ref u9])), (t0, .inl (tk0, 8, .inl tf0)), (t1, .inl (tk1, 8, .inl tf1)), (t2, .inl (tk2, 8, .inl tf2)), (t3, .inl (tk3, 49, .inl tf3)), (t4, .inl (tk4, 49, .inl tf4)), (t5, .inl (tk5, 49, .inl tf5)), (t6, .inl (tk6, 49, .inl tf6)), (t7, .inl (tk7, 49, .inl tf7)), (t8, .inl (tk8, 49, .inl tf8)), (t9, .inl (tk9, 49, .inl tf9)), (u0, .inl (uk0, 8, .inl uf0)), (u1, .inl (uk1, 8, .inl uf1)), (u2, .inl (uk2, 8, .inl uf2)), (u3, .inl (uk3, 49, .inl uf3)), (u4, .inl (uk4, 49, .inl uf4)), (u5, .inl (uk5, 49, .inl uf5)), (u6, .inl (uk6, 49, .inl uf6)), (u7, .inl (uk7, 49, .inl uf7)), (u8, .inl (uk8, 49, .inl uf8)), (u9, .inl (uk9, 49, .inl uf9))] sz)) 0 0 (va_A [(h0, .inr (8, [.ref x_tape, .ref x_reader, .ref x_current, .ref x_images, .ref x_kept, .ref x_slots, .ref x_diary, .ref x_base, .ref x_trial, .ref x_plan, .ref x_orders, .ref x_unanswered, .int 0, .int 0, .int (-1)])), (x_images, .inl (ik, 3, .inr (.inr (.inr (.inr (va_up (va_up (va_up (fun _ => none) 0 (some i0)) 1 (some i1)) 2 (some i2))))))), (x_kept, .inl (kk, 3, .inl kf)), (i2, .inr (7, [.int 0, .int 0, .int 0, .int 0, .int 0, .int 0, .int 0, .int 0, .ref t0, .ref t1, .ref t2, .ref t3, .ref t4, .ref t5, .ref t6, .ref t7, .ref t8, .ref t9])), (x_current, .inr (7, [.int 0, .int 0, .int 0, .int 0, .int 0, .int 0, .int 0, .int 0, .ref u0, .ref u1, .ref u2, .ref u3, .ref u4, .ref u5, .ref u6, .ref u7, .ref u8, .ref u9])), (t0, .inl (tk0, 8, .inl tf0)), (t1, .inl (tk1, 8, .inl tf1)), (t2, .inl (tk2, 8, .inl tf2)), (t3, .inl (tk3, 49, .inl tf3)), (t4, .inl (tk4, 49, .inl tf4)), (t5, .inl (tk5, 49, .inl tf5)), (t6, .inl (tk6, 49, .inl tf6)), (t7, .inl (tk7, 49, .inl tf7)), (t8, .inl (tk8, 49, .inl tf8)), (t9, .inl (tk9, 49, .inl tf9)), (u0, .inl (uk0, 8, .inl uf0)), (u1, .inl (uk1, 8, .inl uf1)), (u2, .inl (uk2, 8, .inl uf2)), (u3, .inl (uk3, 49, .inl uf3)), (u4, .inl (uk4, 49, .inl uf4)), (u5, .inl (uk5, 49, .inl uf5)), (u6, .inl (uk6, 49, .inl uf6)), (u7, .inl (uk7, 49, .inl uf7)), (u8, .inl (uk8, 49, .inl uf8)), (u9, .inl (uk9, 49, .inl uf9))] sz) := by
  refine Met.ofW (cc := cX8_keep) (maxL := 2) (ret := (some .int)) (by decide) rfl ?_
  intro p e s m args below meth c s₁ B hml hv
  obtain ⟨rfl, hsz, hP, hK, hD0⟩ := hv
  have hx := B.exec
  have hb := B.bytes
  have hr := B.returns
  have hts0 := atoms_spec (ws := (.code yX8_keep cX8_keep 2 (some .int) :: ALLW)) B.pre
  have hts := fun (w : Cond) (h : w ∈ ALLW) => hts0 w (List.mem_cons_of_mem _ h)
  have hown : s.vm.findClass RX8 = some m.cls := findClass_of_methodNamed B.named
  have hlocks := B.notSynchronized
  subst hsz
  have hD := hD0.self (sz := s.heap.size)
  generalize hAe : va_A [(h0, .inr (8, [.ref x_tape, .ref x_reader, .ref x_current, .ref x_images, .ref x_kept, .ref x_slots, .ref x_diary, .ref x_base, .ref x_trial, .ref x_plan, .ref x_orders, .ref x_unanswered, .int 0, .int 0, .int (-1)])), (x_images, .inl (ik, 3, .inr (.inr (.inr (.inr (va_up (va_up (va_up (fun _ => none) 0 (some i0)) 1 (some i1)) 2 (some i2))))))), (x_kept, .inl (kk, 3, .inl kf)), (i2, .inr (7, [.int 0, .int 0, .int 0, .int 0, .int 0, .int 0, .int 0, .int 0, .ref t0, .ref t1, .ref t2, .ref t3, .ref t4, .ref t5, .ref t6, .ref t7, .ref t8, .ref t9])), (x_current, .inr (7, [.int 0, .int 0, .int 0, .int 0, .int 0, .int 0, .int 0, .int 0, .ref u0, .ref u1, .ref u2, .ref u3, .ref u4, .ref u5, .ref u6, .ref u7, .ref u8, .ref u9])), (t0, .inl (tk0, 8, .inl tf0)), (t1, .inl (tk1, 8, .inl tf1)), (t2, .inl (tk2, 8, .inl tf2)), (t3, .inl (tk3, 49, .inl tf3)), (t4, .inl (tk4, 49, .inl tf4)), (t5, .inl (tk5, 49, .inl tf5)), (t6, .inl (tk6, 49, .inl tf6)), (t7, .inl (tk7, 49, .inl tf7)), (t8, .inl (tk8, 49, .inl tf8)), (t9, .inl (tk9, 49, .inl tf9)), (u0, .inl (uk0, 8, .inl uf0)), (u1, .inl (uk1, 8, .inl uf1)), (u2, .inl (uk2, 8, .inl uf2)), (u3, .inl (uk3, 49, .inl uf3)), (u4, .inl (uk4, 49, .inl uf4)), (u5, .inl (uk5, 49, .inl uf5)), (u6, .inl (uk6, 49, .inl uf6)), (u7, .inl (uk7, 49, .inl uf7)), (u8, .inl (uk8, 49, .inl uf8)), (u9, .inl (uk9, 49, .inl uf9))] s.heap.size = A at hD ⊢
  have hA : ∀ q : Nat, s.heap.size ≤ q → A q := fun q h => by rw [← hAe]; exact Or.inr h
  have hS : va_S A s.heap s.heap [] := va_S.rf
  have hP : va_P (dC, dI) vwCl [(h0, .inr (8, [.ref x_tape, .ref x_reader, .ref x_current, .ref x_images, .ref x_kept, .ref x_slots, .ref x_diary, .ref x_base, .ref x_trial, .ref x_plan, .ref x_orders, .ref x_unanswered, .int 0, .int 0, .int (-1)])), (x_images, .inl (ik, 3, .inr (.inr (.inr (.inr (va_up (va_up (va_up (fun _ => none) 0 (some i0)) 1 (some i1)) 2 (some i2))))))), (x_kept, .inl (kk, 3, .inl kf)), (i2, .inr (7, [.int 0, .int 0, .int 0, .int 0, .int 0, .int 0, .int 0, .int 0, .ref t0, .ref t1, .ref t2, .ref t3, .ref t4, .ref t5, .ref t6, .ref t7, .ref t8, .ref t9])), (x_current, .inr (7, [.int 0, .int 0, .int 0, .int 0, .int 0, .int 0, .int 0, .int 0, .ref u0, .ref u1, .ref u2, .ref u3, .ref u4, .ref u5, .ref u6, .ref u7, .ref u8, .ref u9])), (t0, .inl (tk0, 8, .inl tf0)), (t1, .inl (tk1, 8, .inl tf1)), (t2, .inl (tk2, 8, .inl tf2)), (t3, .inl (tk3, 49, .inl tf3)), (t4, .inl (tk4, 49, .inl tf4)), (t5, .inl (tk5, 49, .inl tf5)), (t6, .inl (tk6, 49, .inl tf6)), (t7, .inl (tk7, 49, .inl tf7)), (t8, .inl (tk8, 49, .inl tf8)), (t9, .inl (tk9, 49, .inl tf9)), (u0, .inl (uk0, 8, .inl uf0)), (u1, .inl (uk1, 8, .inl uf1)), (u2, .inl (uk2, 8, .inl uf2)), (u3, .inl (uk3, 49, .inl uf3)), (u4, .inl (uk4, 49, .inl uf4)), (u5, .inl (uk5, 49, .inl uf5)), (u6, .inl (uk6, 49, .inl uf6)), (u7, .inl (uk7, 49, .inl uf7)), (u8, .inl (uk8, 49, .inl uf8)), (u9, .inl (uk9, 49, .inl uf9))] s.heap := hP
  have hl := lv_entry ([.ref h0, .int 2]) (n := 2) (Nat.le_of_ble_eq_true rfl)
  rw [lg_entry_eq]
  generalize (lg_sl ([.ref h0, .int 2]) ++ List.replicate (2 - (lg_sl ([.ref h0, .int 2])).length) Slot.unset).toArray = ls at hl ⊢
  have hl : lv_has ls 2 [(0, .ref h0), (1, .int 2)] := hl
  refine lv_iload_n hx hb dX8_keep_0 rfl (lv_at hl 1 rfl) ?_
  refine lv_if_lt (tgt := 9) hx hb dX8_keep_1 (by decide) (fun c_1 => absurd c_1 (by decide)) (fun c_1 => ?_)
  refine lv_iload_n hx hb dX8_keep_4 rfl (lv_at hl 1 rfl) ?_
  refine lv_iconst (v := 3) hx hb dX8_keep_5 (by decide) ?_
  refine lv_icmp_lt (tgt := 12) hx hb dX8_keep_6 (by decide) (fun c_2 => ?_) (fun c_2 => absurd (by decide) c_2)
  refine lv_aload_n hx hb dX8_keep_12 rfl (lv_at hl 0 rfl) ?_
  refine va_get (D := (dC, dI)) (ci := 8) (v := .ref x_images) (C := RX8) (T := TX8) (N := 15) hx hb hts inA8 hown hK hP 0 rfl rfl 3 (by decide) (hts _ w_25) (fun _ h9 => h9) rfl dX8_keep_13 ?_
  refine lv_iload_n hx hb dX8_keep_16 rfl (lv_at hl 1 rfl) ?_
  refine va_aldq hx hb hK hP 1 0 rfl rfl (show vp_in 2 3 from (by unfold vp_in; decide)) dX8_keep_17 ?_
  refine W.eq (g2 := F0 m 18 ls [.ref i2]) rfl ?_
  refine lv_aload_n hx hb dX8_keep_18 rfl (lv_at hl 0 rfl) ?_
  refine va_get (D := (dC, dI)) (ci := 8) (v := .ref x_current) (C := RX8) (T := TX8) (N := 15) hx hb hts inA8 hown hK hP 0 rfl rfl 2 (by decide) (hts _ w_24) (fun _ h9 => h9) rfl dX8_keep_19 ?_
  have hPc := hP.sub (ws' := [(i2, .inr (7, [.int 0, .int 0, .int 0, .int 0, .int 0, .int 0, .int 0, .int 0, .ref t0, .ref t1, .ref t2, .ref t3, .ref t4, .ref t5, .ref t6, .ref t7, .ref t8, .ref t9])), (x_current, .inr (7, [.int 0, .int 0, .int 0, .int 0, .int 0, .int 0, .int 0, .int 0, .ref u0, .ref u1, .ref u2, .ref u3, .ref u4, .ref u5, .ref u6, .ref u7, .ref u8, .ref u9])), (t0, .inl (tk0, 8, .inl tf0)), (t1, .inl (tk1, 8, .inl tf1)), (t2, .inl (tk2, 8, .inl tf2)), (t3, .inl (tk3, 49, .inl tf3)), (t4, .inl (tk4, 49, .inl tf4)), (t5, .inl (tk5, 49, .inl tf5)), (t6, .inl (tk6, 49, .inl tf6)), (t7, .inl (tk7, 49, .inl tf7)), (t8, .inl (tk8, 49, .inl tf8)), (t9, .inl (tk9, 49, .inl tf9)), (u0, .inl (uk0, 8, .inl uf0)), (u1, .inl (uk1, 8, .inl uf1)), (u2, .inl (uk2, 8, .inl uf2)), (u3, .inl (uk3, 49, .inl uf3)), (u4, .inl (uk4, 49, .inl uf4)), (u5, .inl (uk5, 49, .inl uf5)), (u6, .inl (uk6, 49, .inl uf6)), (u7, .inl (uk7, 49, .inl uf7)), (u8, .inl (uk8, 49, .inl uf8)), (u9, .inl (uk9, 49, .inl uf9))]) [3, 4, 5, 6, 7, 8, 9, 10, 11, 12, 13, 14, 15, 16, 17, 18, 19, 20, 21, 22, 23, 24] rfl
  have hDc := hD.sub (ws' := [(i2, .inr (7, [.int 0, .int 0, .int 0, .int 0, .int 0, .int 0, .int 0, .int 0, .ref t0, .ref t1, .ref t2, .ref t3, .ref t4, .ref t5, .ref t6, .ref t7, .ref t8, .ref t9])), (x_current, .inr (7, [.int 0, .int 0, .int 0, .int 0, .int 0, .int 0, .int 0, .int 0, .ref u0, .ref u1, .ref u2, .ref u3, .ref u4, .ref u5, .ref u6, .ref u7, .ref u8, .ref u9])), (t0, .inl (tk0, 8, .inl tf0)), (t1, .inl (tk1, 8, .inl tf1)), (t2, .inl (tk2, 8, .inl tf2)), (t3, .inl (tk3, 49, .inl tf3)), (t4, .inl (tk4, 49, .inl tf4)), (t5, .inl (tk5, 49, .inl tf5)), (t6, .inl (tk6, 49, .inl tf6)), (t7, .inl (tk7, 49, .inl tf7)), (t8, .inl (tk8, 49, .inl tf8)), (t9, .inl (tk9, 49, .inl tf9)), (u0, .inl (uk0, 8, .inl uf0)), (u1, .inl (uk1, 8, .inl uf1)), (u2, .inl (uk2, 8, .inl uf2)), (u3, .inl (uk3, 49, .inl uf3)), (u4, .inl (uk4, 49, .inl uf4)), (u5, .inl (uk5, 49, .inl uf5)), (u6, .inl (uk6, 49, .inl uf6)), (u7, .inl (uk7, 49, .inl uf7)), (u8, .inl (uk8, 49, .inl uf8)), (u9, .inl (uk9, 49, .inl uf9))]) [3, 4, 5, 6, 7, 8, 9, 10, 11, 12, 13, 14, 15, 16, 17, 18, 19, 20, 21, 22, 23, 24] (by decide) rfl
  have hKc := hK.sub (tys' := [(tk0, .int), (tk1, .int), (tk2, .int), (tk3, .int), (tk4, .int), (tk5, .int), (tk6, .int), (tk7, .int), (tk8, .int), (tk9, .int), (uk0, .int), (uk1, .int), (uk2, .int), (uk3, .int), (uk4, .int), (uk5, .int), (uk6, .int), (uk7, .int), (uk8, .int), (uk9, .int)]) [2, 3, 4, 5, 6, 7, 8, 9, 10, 11, 12, 13, 14, 15, 16, 17, 18, 19, 20, 21] rfl
  have hFc := va_free (wc := [(i2, .inr (7, [.int 0, .int 0, .int 0, .int 0, .int 0, .int 0, .int 0, .int 0, .ref t0, .ref t1, .ref t2, .ref t3, .ref t4, .ref t5, .ref t6, .ref t7, .ref t8, .ref t9])), (x_current, .inr (7, [.int 0, .int 0, .int 0, .int 0, .int 0, .int 0, .int 0, .int 0, .ref u0, .ref u1, .ref u2, .ref u3, .ref u4, .ref u5, .ref u6, .ref u7, .ref u8, .ref u9])), (t0, .inl (tk0, 8, .inl tf0)), (t1, .inl (tk1, 8, .inl tf1)), (t2, .inl (tk2, 8, .inl tf2)), (t3, .inl (tk3, 49, .inl tf3)), (t4, .inl (tk4, 49, .inl tf4)), (t5, .inl (tk5, 49, .inl tf5)), (t6, .inl (tk6, 49, .inl tf6)), (t7, .inl (tk7, 49, .inl tf7)), (t8, .inl (tk8, 49, .inl tf8)), (t9, .inl (tk9, 49, .inl tf9)), (u0, .inl (uk0, 8, .inl uf0)), (u1, .inl (uk1, 8, .inl uf1)), (u2, .inl (uk2, 8, .inl uf2)), (u3, .inl (uk3, 49, .inl uf3)), (u4, .inl (uk4, 49, .inl uf4)), (u5, .inl (uk5, 49, .inl uf5)), (u6, .inl (uk6, 49, .inl uf6)), (u7, .inl (uk7, 49, .inl uf7)), (u8, .inl (uk8, 49, .inl uf8)), (u9, .inl (uk9, 49, .inl uf9))]) hD hS hA [3, 4, 5, 6, 7, 8, 9, 10, 11, 12, 13, 14, 15, 16, 17, 18, 19, 20, 21, 22, 23, 24] rfl
  refine va_callv (va_runV (As := [.ref x_current]) (rest := []) ⟨hx, hb, hml, hown, hts⟩ (c_copyFrom l dC dI s.heap.size i2 x_current t0 t1 t2 t3 t4 t5 t6 t7 t8 t9 u0 u1 u2 u3 u4 u5 u6 u7 u8 u9 tk0 tk1 tk2 tk3 tk4 tk5 tk6 tk7 tk8 tk9 tf0 tf1 tf2 tf3 tf4 tf5 tf6 tf7 tf8 tf9 uk0 uk1 uk2 uk3 uk4 uk5 uk6 uk7 uk8 uk9 uf0 uf1 uf2 uf3 uf4 uf5 uf6 uf7 uf8 uf9 ) (cwV 1 hts (goodV w_385 w_386 w_387 w_23 w_388) rfl rfl rfl hdV_X7_copyFrom ⟨Nat.le_of_ble_eq_true rfl, Nat.le_of_ble_eq_true rfl⟩) ⟨fun a U g mk q => by obtain ⟨q0, q1, qP, qK, qD⟩ := q; exact ⟨q0, q1, qP, va_K.moved (u := U) (U := U.calling g mk a) (Vm.Alike.refl U.vm) qK, qD⟩, va_recv hKc hPc (ci := 7) (q0 := 0) rfl rfl, fun U hU hW => ⟨rfl, by rw [hU], by rw [hU]; exact hPc, va_K.moved hW.alike hKc, hDc.weaken (fun _ _ _ _ => trivial)⟩⟩ rfl rfl hl.1 rfl (lv_room (Nat.le_of_ble_eq_true rfl)) dX8_keep_22 ⟨Nat.le_of_ble_eq_true rfl, Nat.le_of_ble_eq_true rfl⟩) hS (fun q _ h => hFc q h) hFc (fun  u t H1 locs ht hvm hw hB hz1 hk1 hS => ?_)
  obtain ⟨hP1, hK1, hD1⟩ := hB
  rw [ht] at hP1
  have hK1 := va_K.moved hvm.symm hK1
  obtain ⟨hP, hD⟩ := va_join (wr := [(h0, .inr (8, [.ref x_tape, .ref x_reader, .ref x_current, .ref x_images, .ref x_kept, .ref x_slots, .ref x_diary, .ref x_base, .ref x_trial, .ref x_plan, .ref x_orders, .ref x_unanswered, .int 0, .int 0, .int (-1)])), (x_images, .inl (ik, 3, .inr (.inr (.inr (.inr (va_up (va_up (va_up (fun _ => none) 0 (some i0)) 1 (some i1)) 2 (some i2))))))), (x_kept, .inl (kk, 3, .inl kf))]) (w1 := [(i2, .inr (7, [.int 0, .int 0, .int 0, .int 0, .int 0, .int 0, .int 0, .int 0, .ref t0, .ref t1, .ref t2, .ref t3, .ref t4, .ref t5, .ref t6, .ref t7, .ref t8, .ref t9]))]) hP hD [3, 4, 5, 6, 7, 8, 9, 10, 11, 12, 13, 14, 15, 16, 17, 18, 19, 20, 21, 22, 23, 24] [0, 1, 2] rfl rfl (by decide) (by decide) hk1 hFc hP1 hD1
  clear hPc hDc hKc hFc
  generalize H1 = H at hP hS ⊢
  have hP : va_P (dC, dI) vwCl [(h0, .inr (8, [.ref x_tape, .ref x_reader, .ref x_current, .ref x_images, .ref x_kept, .ref x_slots, .ref x_diary, .ref x_base, .ref x_trial, .ref x_plan, .ref x_orders, .ref x_unanswered, .int 0, .int 0, .int (-1)])), (x_images, .inl (ik, 3, .inr (.inr (.inr (.inr (va_up (va_up (va_up (fun _ => none) 0 (some i0)) 1 (some i1)) 2 (some i2))))))), (x_kept, .inl (kk, 3, .inl kf)), (i2, .inr (7, [.int 0, .int 0, .int 0, .int 0, .int 0, .int 0, .int 0, .int 0, .ref t0, .ref t1, .ref t2, .ref t3, .ref t4, .ref t5, .ref t6, .ref t7, .ref t8, .ref t9]))] H := hP
  have hD : va_D A [(h0, .inr (8, [.ref x_tape, .ref x_reader, .ref x_current, .ref x_images, .ref x_kept, .ref x_slots, .ref x_diary, .ref x_base, .ref x_trial, .ref x_plan, .ref x_orders, .ref x_unanswered, .int 0, .int 0, .int (-1)])), (x_images, .inl (ik, 3, .inr (.inr (.inr (.inr (va_up (va_up (va_up (fun _ => none) 0 (some i0)) 1 (some i1)) 2 (some i2))))))), (x_kept, .inl (kk, 3, .inl kf)), (i2, .inr (7, [.int 0, .int 0, .int 0, .int 0, .int 0, .int 0, .int 0, .int 0, .ref t0, .ref t1, .ref t2, .ref t3, .ref t4, .ref t5, .ref t6, .ref t7, .ref t8, .ref t9]))] := hD
  refine lv_aload_n hx hb dX8_keep_25 rfl (lv_at hl 0 rfl) ?_
  refine va_get (D := (dC, dI)) (ci := 8) (v := .ref x_kept) (C := RX8) (T := TX8) (N := 15) hx hb hts inA8 hown hK hP 0 rfl rfl 4 (by decide) (hts _ w_27) (fun _ h9 => h9) rfl dX8_keep_26 ?_
  refine lv_iload_n hx hb dX8_keep_29 rfl (lv_at hl 1 rfl) ?_
  refine lv_iconst (v := 1) hx hb dX8_keep_30 (by decide) ?_
  refine va_zast hx hb hK hP hD hS 2 1 rfl rfl (show vp_in 2 3 from (by unfold vp_in; decide)) dX8_keep_31 (fun H locs hP hD hS => ?_)
  rw [show (2 : Int32).toNatClampNeg = 2 from by decide] at hP hD
  generalize upd (kf) 2 (vp_nar .boolean 1) = f_3 at hP hD
  have hP : va_P (dC, dI) vwCl [(h0, .inr (8, [.ref x_tape, .ref x_reader, .ref x_current, .ref x_images, .ref x_kept, .ref x_slots, .ref x_diary, .ref x_base, .ref x_trial, .ref x_plan, .ref x_orders, .ref x_unanswered, .int 0, .int 0, .int (-1)])), (x_images, .inl (ik, 3, .inr (.inr (.inr (.inr (va_up (va_up (va_up (fun _ => none) 0 (some i0)) 1 (some i1)) 2 (some i2))))))), (x_kept, .inl (kk, 3, .inl f_3)), (i2, .inr (7, [.int 0, .int 0, .int 0, .int 0, .int 0, .int 0, .int 0, .int 0, .ref t0, .ref t1, .ref t2, .ref t3, .ref t4, .ref t5, .ref t6, .ref t7, .ref t8, .ref t9]))] H := hP
  have hD : va_D A [(h0, .inr (8, [.ref x_tape, .ref x_reader, .ref x_current, .ref x_images, .ref x_kept, .ref x_slots, .ref x_diary, .ref x_base, .ref x_trial, .ref x_plan, .ref x_orders, .ref x_unanswered, .int 0, .int 0, .int (-1)])), (x_images, .inl (ik, 3, .inr (.inr (.inr (.inr (va_up (va_up (va_up (fun _ => none) 0 (some i0)) 1 (some i1)) 2 (some i2))))))), (x_kept, .inl (kk, 3, .inl f_3)), (i2, .inr (7, [.int 0, .int 0, .int 0, .int 0, .int 0, .int 0, .int 0, .int 0, .ref t0, .ref t1, .ref t2, .ref t3, .ref t4, .ref t5, .ref t6, .ref t7, .ref t8, .ref t9]))] := hD
  refine lv_iconst (v := 0) hx hb dX8_keep_32 (by decide) ?_
  exact W.iret (v := 0) hx hb hr (fun t ht hW => ⟨⟨0, (), rfl, rfl, trivial⟩, hS.F ht⟩) hS.2.2 dX8_keep_33
set_option maxHeartbeats 4000000 in
set_option maxRecDepth 100000 in
theorem x_back2 (l : Launch) (dC : Nat → ClassId) (dI : Nat → Nat → Nat) (sz : Nat) (h0 : Nat) (x_tape : Nat) (x_reader : Nat) (x_current : Nat) (x_images : Nat) (x_kept : Nat) (x_slots : Nat) (x_diary : Nat) (x_base : Nat) (x_trial : Nat) (x_plan : Nat) (x_orders : Nat) (x_unanswered : Nat) (kk : ClassId)  : Met l yX8_back (.code yX8_back cX8_back 2 (some .int) :: ALLW) ({ frames := 0, cells := 0, slots := 0, locals := 0 }) (va_Pc [.ref h0, .int 2] (fun U => U.heap.size = sz ∧ va_P (dC, dI) vwCl [(h0, .inr (8, [.ref x_tape, .ref x_reader, .ref x_current, .ref x_images, .ref x_kept, .ref x_slots, .ref x_diary, .ref x_base, .ref x_trial, .ref x_plan, .ref x_orders, .ref x_unanswered, .int 0, .int 0, .int (-1)])), (x_kept, .inl (kk, 3, .inl (fun _ => 0)))] U.heap ∧ va_K (dC, dI) vwCl [(kk, .boolean)] U ∧ va_D (fun _ => True) [(h0, .inr (8, [.ref x_tape, .ref x_reader, .ref x_current, .ref x_images, .ref x_kept, .ref x_slots, .ref x_diary, .ref x_base, .ref x_trial, .ref x_plan, .ref x_orders, .ref x_unanswered, .int 0, .int 0, .int (-1)])), (x_kept, .inl (kk, 3, .inl (fun _ => 0)))])) (va_Qi (fun (r : Int32) (_ : Unit) => r = (-6)) (fun (_ : Unit) (_ : State) => True) (va_A [(h0, .inr (8, [.ref x_tape, .ref x_reader, .ref x_current, .ref x_images, .ref x_kept, .ref x_slots, .ref x_diary, .ref x_base, .ref x_trial, .ref x_plan, .ref x_orders, .ref x_unanswered, .int 0, .int 0, .int (-1)])), (x_kept, .inl (kk, 3, .inl (fun _ => 0)))] sz)) 0 0 (va_A [(h0, .inr (8, [.ref x_tape, .ref x_reader, .ref x_current, .ref x_images, .ref x_kept, .ref x_slots, .ref x_diary, .ref x_base, .ref x_trial, .ref x_plan, .ref x_orders, .ref x_unanswered, .int 0, .int 0, .int (-1)])), (x_kept, .inl (kk, 3, .inl (fun _ => 0)))] sz) := by
  refine Met.ofW (cc := cX8_back) (maxL := 2) (ret := (some .int)) (by decide) rfl ?_
  intro p e s m args below meth c s₁ B hml hv
  obtain ⟨rfl, hsz, hP, hK, hD0⟩ := hv
  have hx := B.exec
  have hb := B.bytes
  have hr := B.returns
  have hts0 := atoms_spec (ws := (.code yX8_back cX8_back 2 (some .int) :: ALLW)) B.pre
  have hts := fun (w : Cond) (h : w ∈ ALLW) => hts0 w (List.mem_cons_of_mem _ h)
  have hown : s.vm.findClass RX8 = some m.cls := findClass_of_methodNamed B.named
  have hlocks := B.notSynchronized
  subst hsz
  have hD := hD0.self (sz := s.heap.size)
  generalize hAe : va_A [(h0, .inr (8, [.ref x_tape, .ref x_reader, .ref x_current, .ref x_images, .ref x_kept, .ref x_slots, .ref x_diary, .ref x_base, .ref x_trial, .ref x_plan, .ref x_orders, .ref x_unanswered, .int 0, .int 0, .int (-1)])), (x_kept, .inl (kk, 3, .inl (fun _ => 0)))] s.heap.size = A at hD ⊢
  have hA : ∀ q : Nat, s.heap.size ≤ q → A q := fun q h => by rw [← hAe]; exact Or.inr h
  have hS : va_S A s.heap s.heap [] := va_S.rf
  have hP : va_P (dC, dI) vwCl [(h0, .inr (8, [.ref x_tape, .ref x_reader, .ref x_current, .ref x_images, .ref x_kept, .ref x_slots, .ref x_diary, .ref x_base, .ref x_trial, .ref x_plan, .ref x_orders, .ref x_unanswered, .int 0, .int 0, .int (-1)])), (x_kept, .inl (kk, 3, .inl (fun _ => 0)))] s.heap := hP
  have hl := lv_entry ([.ref h0, .int 2]) (n := 2) (Nat.le_of_ble_eq_true rfl)
  rw [lg_entry_eq]
  generalize (lg_sl ([.ref h0, .int 2]) ++ List.replicate (2 - (lg_sl ([.ref h0, .int 2])).length) Slot.unset).toArray = ls at hl ⊢
  have hl : lv_has ls 2 [(0, .ref h0), (1, .int 2)] := hl
  refine lv_iload_n hx hb dX8_back_0 rfl (lv_at hl 1 rfl) ?_
  refine lv_if_lt (tgt := 9) hx hb dX8_back_1 (by decide) (fun c_1 => absurd c_1 (by decide)) (fun c_1 => ?_)
  refine lv_iload_n hx hb dX8_back_4 rfl (lv_at hl 1 rfl) ?_
  refine lv_iconst (v := 3) hx hb dX8_back_5 (by decide) ?_
  refine lv_icmp_lt (tgt := 12) hx hb dX8_back_6 (by decide) (fun c_2 => ?_) (fun c_2 => absurd (by decide) c_2)
  refine lv_aload_n hx hb dX8_back_12 rfl (lv_at hl 0 rfl) ?_
  refine va_get (D := (dC, dI)) (ci := 8) (v := .ref x_kept) (C := RX8) (T := TX8) (N := 15) hx hb hts inA8 hown hK hP 0 rfl rfl 4 (by decide) (hts _ w_27) (fun _ h9 => h9) rfl dX8_back_13 ?_
  refine lv_iload_n hx hb dX8_back_16 rfl (lv_at hl 1 rfl) ?_
  refine va_zald hx hb hK hP 1 0 rfl rfl (show vp_in 2 3 from (by unfold vp_in; decide)) dX8_back_17 ?_
  refine lv_topi (fun x_3 ex_3 => ?_)
  obtain rfl : x_3 = 0 := ex_3.trans (by decide +kernel)
  refine lv_if_ne (tgt := 24) hx hb dX8_back_18 (by decide) (fun c_4 => absurd (by decide) c_4) (fun c_4 => ?_)
  refine lv_bipush (v := (-6)) hx hb dX8_back_21 (by decide) ?_
  exact W.iret (v := (-6)) hx hb hr (fun t ht hW => ⟨⟨(-6), (), rfl, rfl, trivial⟩, hS.F ht⟩) hS.2.2 dX8_back_23
set_option maxHeartbeats 4000000 in
set_option maxRecDepth 100000 in
theorem x_keepN (l : Launch) (dC : Nat → ClassId) (dI : Nat → Nat → Nat) (sz : Nat) (h0 : Nat) (x_tape : Nat) (x_reader : Nat) (x_current : Nat) (x_images : Nat) (x_kept : Nat) (x_slots : Nat) (x_diary : Nat) (x_base : Nat) (x_trial : Nat) (x_plan : Nat) (x_orders : Nat) (x_unanswered : Nat) (a : Int32) (ha : a.toInt < 0 ∨ 3 ≤ a.toInt) : Met l yX8_keep (.code yX8_keep cX8_keep 2 (some .int) :: ALLW) ({ frames := 0, cells := 0, slots := 0, locals := 0 }) (va_Pc [.ref h0, .int a] (fun U => U.heap.size = sz ∧ va_P (dC, dI) vwCl [(h0, .inr (8, [.ref x_tape, .ref x_reader, .ref x_current, .ref x_images, .ref x_kept, .ref x_slots, .ref x_diary, .ref x_base, .ref x_trial, .ref x_plan, .ref x_orders, .ref x_unanswered, .int 0, .int 0, .int (-1)]))] U.heap ∧ va_K (dC, dI) vwCl [] U ∧ va_D (fun _ => True) [(h0, .inr (8, [.ref x_tape, .ref x_reader, .ref x_current, .ref x_images, .ref x_kept, .ref x_slots, .ref x_diary, .ref x_base, .ref x_trial, .ref x_plan, .ref x_orders, .ref x_unanswered, .int 0, .int 0, .int (-1)]))])) (va_Qi (fun (r : Int32) (_ : Unit) => r = (-2)) (fun (_ : Unit) (_ : State) => True) (va_A [(h0, .inr (8, [.ref x_tape, .ref x_reader, .ref x_current, .ref x_images, .ref x_kept, .ref x_slots, .ref x_diary, .ref x_base, .ref x_trial, .ref x_plan, .ref x_orders, .ref x_unanswered, .int 0, .int 0, .int (-1)]))] sz)) 0 0 (va_A [(h0, .inr (8, [.ref x_tape, .ref x_reader, .ref x_current, .ref x_images, .ref x_kept, .ref x_slots, .ref x_diary, .ref x_base, .ref x_trial, .ref x_plan, .ref x_orders, .ref x_unanswered, .int 0, .int 0, .int (-1)]))] sz) := by
  refine Met.ofW (cc := cX8_keep) (maxL := 2) (ret := (some .int)) (by decide) rfl ?_
  intro p e s m args below meth c s₁ B hml hv
  obtain ⟨rfl, hsz, hP, hK, hD0⟩ := hv
  have hx := B.exec
  have hb := B.bytes
  have hr := B.returns
  have hts0 := atoms_spec (ws := (.code yX8_keep cX8_keep 2 (some .int) :: ALLW)) B.pre
  have hts := fun (w : Cond) (h : w ∈ ALLW) => hts0 w (List.mem_cons_of_mem _ h)
  have hown : s.vm.findClass RX8 = some m.cls := findClass_of_methodNamed B.named
  have hlocks := B.notSynchronized
  subst hsz
  have hD := hD0.self (sz := s.heap.size)
  generalize hAe : va_A [(h0, .inr (8, [.ref x_tape, .ref x_reader, .ref x_current, .ref x_images, .ref x_kept, .ref x_slots, .ref x_diary, .ref x_base, .ref x_trial, .ref x_plan, .ref x_orders, .ref x_unanswered, .int 0, .int 0, .int (-1)]))] s.heap.size = A at hD ⊢
  have hA : ∀ q : Nat, s.heap.size ≤ q → A q := fun q h => by rw [← hAe]; exact Or.inr h
  have hS : va_S A s.heap s.heap [] := va_S.rf
  have hP : va_P (dC, dI) vwCl [(h0, .inr (8, [.ref x_tape, .ref x_reader, .ref x_current, .ref x_images, .ref x_kept, .ref x_slots, .ref x_diary, .ref x_base, .ref x_trial, .ref x_plan, .ref x_orders, .ref x_unanswered, .int 0, .int 0, .int (-1)]))] s.heap := hP
  have hl := lv_entry ([.ref h0, .int a]) (n := 2) (Nat.le_of_ble_eq_true rfl)
  rw [lg_entry_eq]
  generalize (lg_sl ([.ref h0, .int a]) ++ List.replicate (2 - (lg_sl ([.ref h0, .int a])).length) Slot.unset).toArray = ls at hl ⊢
  have hl : lv_has ls 2 [(0, .ref h0), (1, .int a)] := hl
  refine lv_iload_n hx hb dX8_keep_0 rfl (lv_at hl 1 rfl) ?_
  refine lv_if_lt (tgt := 9) hx hb dX8_keep_1 (by decide) (fun c_1 => ?_) (fun c_1 => ?_)
  · have ec_1 := q_lt (a := a.toInt) (b := 0) rfl (by decide) c_1
    refine lv_bipush (v := (-2)) hx hb dX8_keep_9 (by decide) ?_
    exact W.iret (v := (-2)) hx hb hr (fun t ht hW => ⟨⟨(-2), (), rfl, rfl, trivial⟩, hS.F ht⟩) hS.2.2 dX8_keep_11
  · have ec_1 := q_nlt (a := a.toInt) (b := 0) rfl (by decide) c_1
    refine lv_iload_n hx hb dX8_keep_4 rfl (lv_at hl 1 rfl) ?_
    refine lv_iconst (v := 3) hx hb dX8_keep_5 (by decide) ?_
    refine lv_icmp_lt (tgt := 12) hx hb dX8_keep_6 (by decide) (fun c_2 => absurd (q_lt (a := a.toInt) (b := 3) rfl (by decide) c_2) (by omega)) (fun c_2 => ?_)
    have ec_2 := q_nlt (a := a.toInt) (b := 3) rfl (by decide) c_2
    refine lv_bipush (v := (-2)) hx hb dX8_keep_9 (by decide) ?_
    exact W.iret (v := (-2)) hx hb hr (fun t ht hW => ⟨⟨(-2), (), rfl, rfl, trivial⟩, hS.F ht⟩) hS.2.2 dX8_keep_11
set_option maxHeartbeats 4000000 in
set_option maxRecDepth 100000 in
theorem x_backN (l : Launch) (dC : Nat → ClassId) (dI : Nat → Nat → Nat) (sz : Nat) (h0 : Nat) (x_tape : Nat) (x_reader : Nat) (x_current : Nat) (x_images : Nat) (x_kept : Nat) (x_slots : Nat) (x_diary : Nat) (x_base : Nat) (x_trial : Nat) (x_plan : Nat) (x_orders : Nat) (x_unanswered : Nat) (a : Int32) (ha : a.toInt < 0 ∨ 3 ≤ a.toInt) : Met l yX8_back (.code yX8_back cX8_back 2 (some .int) :: ALLW) ({ frames := 0, cells := 0, slots := 0, locals := 0 }) (va_Pc [.ref h0, .int a] (fun U => U.heap.size = sz ∧ va_P (dC, dI) vwCl [(h0, .inr (8, [.ref x_tape, .ref x_reader, .ref x_current, .ref x_images, .ref x_kept, .ref x_slots, .ref x_diary, .ref x_base, .ref x_trial, .ref x_plan, .ref x_orders, .ref x_unanswered, .int 0, .int 0, .int (-1)]))] U.heap ∧ va_K (dC, dI) vwCl [] U ∧ va_D (fun _ => True) [(h0, .inr (8, [.ref x_tape, .ref x_reader, .ref x_current, .ref x_images, .ref x_kept, .ref x_slots, .ref x_diary, .ref x_base, .ref x_trial, .ref x_plan, .ref x_orders, .ref x_unanswered, .int 0, .int 0, .int (-1)]))])) (va_Qi (fun (r : Int32) (_ : Unit) => r = (-2)) (fun (_ : Unit) (_ : State) => True) (va_A [(h0, .inr (8, [.ref x_tape, .ref x_reader, .ref x_current, .ref x_images, .ref x_kept, .ref x_slots, .ref x_diary, .ref x_base, .ref x_trial, .ref x_plan, .ref x_orders, .ref x_unanswered, .int 0, .int 0, .int (-1)]))] sz)) 0 0 (va_A [(h0, .inr (8, [.ref x_tape, .ref x_reader, .ref x_current, .ref x_images, .ref x_kept, .ref x_slots, .ref x_diary, .ref x_base, .ref x_trial, .ref x_plan, .ref x_orders, .ref x_unanswered, .int 0, .int 0, .int (-1)]))] sz) := by
  refine Met.ofW (cc := cX8_back) (maxL := 2) (ret := (some .int)) (by decide) rfl ?_
  intro p e s m args below meth c s₁ B hml hv
  obtain ⟨rfl, hsz, hP, hK, hD0⟩ := hv
  have hx := B.exec
  have hb := B.bytes
  have hr := B.returns
  have hts0 := atoms_spec (ws := (.code yX8_back cX8_back 2 (some .int) :: ALLW)) B.pre
  have hts := fun (w : Cond) (h : w ∈ ALLW) => hts0 w (List.mem_cons_of_mem _ h)
  have hown : s.vm.findClass RX8 = some m.cls := findClass_of_methodNamed B.named
  have hlocks := B.notSynchronized
  subst hsz
  have hD := hD0.self (sz := s.heap.size)
  generalize hAe : va_A [(h0, .inr (8, [.ref x_tape, .ref x_reader, .ref x_current, .ref x_images, .ref x_kept, .ref x_slots, .ref x_diary, .ref x_base, .ref x_trial, .ref x_plan, .ref x_orders, .ref x_unanswered, .int 0, .int 0, .int (-1)]))] s.heap.size = A at hD ⊢
  have hA : ∀ q : Nat, s.heap.size ≤ q → A q := fun q h => by rw [← hAe]; exact Or.inr h
  have hS : va_S A s.heap s.heap [] := va_S.rf
  have hP : va_P (dC, dI) vwCl [(h0, .inr (8, [.ref x_tape, .ref x_reader, .ref x_current, .ref x_images, .ref x_kept, .ref x_slots, .ref x_diary, .ref x_base, .ref x_trial, .ref x_plan, .ref x_orders, .ref x_unanswered, .int 0, .int 0, .int (-1)]))] s.heap := hP
  have hl := lv_entry ([.ref h0, .int a]) (n := 2) (Nat.le_of_ble_eq_true rfl)
  rw [lg_entry_eq]
  generalize (lg_sl ([.ref h0, .int a]) ++ List.replicate (2 - (lg_sl ([.ref h0, .int a])).length) Slot.unset).toArray = ls at hl ⊢
  have hl : lv_has ls 2 [(0, .ref h0), (1, .int a)] := hl
  refine lv_iload_n hx hb dX8_back_0 rfl (lv_at hl 1 rfl) ?_
  refine lv_if_lt (tgt := 9) hx hb dX8_back_1 (by decide) (fun c_1 => ?_) (fun c_1 => ?_)
  · have ec_1 := q_lt (a := a.toInt) (b := 0) rfl (by decide) c_1
    refine lv_bipush (v := (-2)) hx hb dX8_back_9 (by decide) ?_
    exact W.iret (v := (-2)) hx hb hr (fun t ht hW => ⟨⟨(-2), (), rfl, rfl, trivial⟩, hS.F ht⟩) hS.2.2 dX8_back_11
  · have ec_1 := q_nlt (a := a.toInt) (b := 0) rfl (by decide) c_1
    refine lv_iload_n hx hb dX8_back_4 rfl (lv_at hl 1 rfl) ?_
    refine lv_iconst (v := 3) hx hb dX8_back_5 (by decide) ?_
    refine lv_icmp_lt (tgt := 12) hx hb dX8_back_6 (by decide) (fun c_2 => absurd (q_lt (a := a.toInt) (b := 3) rfl (by decide) c_2) (by omega)) (fun c_2 => ?_)
    have ec_2 := q_nlt (a := a.toInt) (b := 3) rfl (by decide) c_2
    refine lv_bipush (v := (-2)) hx hb dX8_back_9 (by decide) ?_
    exact W.iret (v := (-2)) hx hb hr (fun t ht hW => ⟨⟨(-2), (), rfl, rfl, trivial⟩, hS.F ht⟩) hS.2.2 dX8_back_11
set_option maxHeartbeats 4000000 in
set_option maxRecDepth 100000 in
theorem x_row0 (l : Launch) (dC : Nat → ClassId) (dI : Nat → Nat → Nat) (sz : Nat) (h0 : Nat) (x_tape : Nat) (x_reader : Nat) (x_current : Nat) (x_images : Nat) (x_kept : Nat) (x_slots : Nat) (x_diary : Nat) (x_base : Nat) (x_trial : Nat) (x_plan : Nat) (x_orders : Nat) (x_unanswered : Nat) (s0 : Nat) (s1 : Nat) (s2 : Nat) (s3 : Nat) (y0 : Nat) (y1 : Nat) (y2 : Nat) (y3 : Nat) (zk : ClassId) (sk0 : ClassId) (sf0 : Nat → Int64) (a : Int32) (b : Int32) (h1 : 0 ≤ a.toInt) (h2 : a.toInt ≤ 3) (h3 : 0 ≤ b.toInt) (h4 : b.toInt ≤ 60) : Met l yX8_row (.code yX8_row cX8_row 4 (some .int) :: ALLW) ({ frames := 2, cells := 0, slots := 0, locals := 46 }) (va_Pc [.ref h0, .int 0, .int a, .int b] (fun U => U.heap.size = sz ∧ va_P (dC, dI) vwCl [(h0, .inr (8, [.ref x_tape, .ref x_reader, .ref x_current, .ref x_images, .ref x_kept, .ref x_slots, .ref x_diary, .ref x_base, .ref x_trial, .ref x_plan, .ref x_orders, .ref x_unanswered, .int 0, .int 0, .int (-1)])), (x_slots, .inl (zk, 4, .inr (.inr (.inr (.inr (va_up (va_up (va_up (va_up (fun _ => none) 0 (some s0)) 1 (some s1)) 2 (some s2)) 3 (some s3))))))), (s0, .inr (5, [.ref y0, .int 0, .int 0, .int 0])), (y0, .inl (sk0, 60, .inr (.inl sf0)))] U.heap ∧ va_K (dC, dI) vwCl [(zk, .object RX5), (sk0, .long)] U ∧ va_D (fun _ => True) [(h0, .inr (8, [.ref x_tape, .ref x_reader, .ref x_current, .ref x_images, .ref x_kept, .ref x_slots, .ref x_diary, .ref x_base, .ref x_trial, .ref x_plan, .ref x_orders, .ref x_unanswered, .int 0, .int 0, .int (-1)])), (x_slots, .inl (zk, 4, .inr (.inr (.inr (.inr (va_up (va_up (va_up (va_up (fun _ => none) 0 (some s0)) 1 (some s1)) 2 (some s2)) 3 (some s3))))))), (s0, .inr (5, [.ref y0, .int 0, .int 0, .int 0])), (y0, .inl (sk0, 60, .inr (.inl sf0)))])) (va_Qi (fun (r : Int32) (_ : Unit) => r = 0) (fun (_ : Unit) (_ : State) => True) (va_A [(h0, .inr (8, [.ref x_tape, .ref x_reader, .ref x_current, .ref x_images, .ref x_kept, .ref x_slots, .ref x_diary, .ref x_base, .ref x_trial, .ref x_plan, .ref x_orders, .ref x_unanswered, .int 0, .int 0, .int (-1)])), (x_slots, .inl (zk, 4, .inr (.inr (.inr (.inr (va_up (va_up (va_up (va_up (fun _ => none) 0 (some s0)) 1 (some s1)) 2 (some s2)) 3 (some s3))))))), (s0, .inr (5, [.ref y0, .int 0, .int 0, .int 0])), (y0, .inl (sk0, 60, .inr (.inl sf0)))] sz)) 0 0 (va_A [(h0, .inr (8, [.ref x_tape, .ref x_reader, .ref x_current, .ref x_images, .ref x_kept, .ref x_slots, .ref x_diary, .ref x_base, .ref x_trial, .ref x_plan, .ref x_orders, .ref x_unanswered, .int 0, .int 0, .int (-1)])), (x_slots, .inl (zk, 4, .inr (.inr (.inr (.inr (va_up (va_up (va_up (va_up (fun _ => none) 0 (some s0)) 1 (some s1)) 2 (some s2)) 3 (some s3))))))), (s0, .inr (5, [.ref y0, .int 0, .int 0, .int 0])), (y0, .inl (sk0, 60, .inr (.inl sf0)))] sz) := by
  refine Met.ofW (cc := cX8_row) (maxL := 4) (ret := (some .int)) (by decide) rfl ?_
  intro p e s m args below meth c s₁ B hml hv
  obtain ⟨rfl, hsz, hP, hK, hD0⟩ := hv
  have hx := B.exec
  have hb := B.bytes
  have hr := B.returns
  have hts0 := atoms_spec (ws := (.code yX8_row cX8_row 4 (some .int) :: ALLW)) B.pre
  have hts := fun (w : Cond) (h : w ∈ ALLW) => hts0 w (List.mem_cons_of_mem _ h)
  have hown : s.vm.findClass RX8 = some m.cls := findClass_of_methodNamed B.named
  have hlocks := B.notSynchronized
  subst hsz
  have hD := hD0.self (sz := s.heap.size)
  generalize hAe : va_A [(h0, .inr (8, [.ref x_tape, .ref x_reader, .ref x_current, .ref x_images, .ref x_kept, .ref x_slots, .ref x_diary, .ref x_base, .ref x_trial, .ref x_plan, .ref x_orders, .ref x_unanswered, .int 0, .int 0, .int (-1)])), (x_slots, .inl (zk, 4, .inr (.inr (.inr (.inr (va_up (va_up (va_up (va_up (fun _ => none) 0 (some s0)) 1 (some s1)) 2 (some s2)) 3 (some s3))))))), (s0, .inr (5, [.ref y0, .int 0, .int 0, .int 0])), (y0, .inl (sk0, 60, .inr (.inl sf0)))] s.heap.size = A at hD ⊢
  have hA : ∀ q : Nat, s.heap.size ≤ q → A q := fun q h => by rw [← hAe]; exact Or.inr h
  have hS : va_S A s.heap s.heap [] := va_S.rf
  have hP : va_P (dC, dI) vwCl [(h0, .inr (8, [.ref x_tape, .ref x_reader, .ref x_current, .ref x_images, .ref x_kept, .ref x_slots, .ref x_diary, .ref x_base, .ref x_trial, .ref x_plan, .ref x_orders, .ref x_unanswered, .int 0, .int 0, .int (-1)])), (x_slots, .inl (zk, 4, .inr (.inr (.inr (.inr (va_up (va_up (va_up (va_up (fun _ => none) 0 (some s0)) 1 (some s1)) 2 (some s2)) 3 (some s3))))))), (s0, .inr (5, [.ref y0, .int 0, .int 0, .int 0])), (y0, .inl (sk0, 60, .inr (.inl sf0)))] s.heap := hP
  have hl := lv_entry ([.ref h0, .int 0, .int a, .int b]) (n := 4) (Nat.le_of_ble_eq_true rfl)
  rw [lg_entry_eq]
  generalize (lg_sl ([.ref h0, .int 0, .int a, .int b]) ++ List.replicate (4 - (lg_sl ([.ref h0, .int 0, .int a, .int b])).length) Slot.unset).toArray = ls at hl ⊢
  have hl : lv_has ls 4 [(0, .ref h0), (1, .int 0), (2, .int a), (3, .int b)] := hl
  refine lv_aload_n hx hb dX8_row_0 rfl (lv_at hl 0 rfl) ?_
  refine lv_iload_n hx hb dX8_row_1 rfl (lv_at hl 1 rfl) ?_
  have hPc := hP.sub (ws' := [(h0, .inr (8, [.ref x_tape, .ref x_reader, .ref x_current, .ref x_images, .ref x_kept, .ref x_slots, .ref x_diary, .ref x_base, .ref x_trial, .ref x_plan, .ref x_orders, .ref x_unanswered, .int 0, .int 0, .int (-1)]))]) [0] rfl
  have hDc := hD.sub (ws' := [(h0, .inr (8, [.ref x_tape, .ref x_reader, .ref x_current, .ref x_images, .ref x_kept, .ref x_slots, .ref x_diary, .ref x_base, .ref x_trial, .ref x_plan, .ref x_orders, .ref x_unanswered, .int 0, .int 0, .int (-1)]))]) [0] (by decide) rfl
  have hKc := hK.sub (tys' := []) [] rfl
  have hFc := va_free (wc := [(h0, .inr (8, [.ref x_tape, .ref x_reader, .ref x_current, .ref x_images, .ref x_kept, .ref x_slots, .ref x_diary, .ref x_base, .ref x_trial, .ref x_plan, .ref x_orders, .ref x_unanswered, .int 0, .int 0, .int (-1)]))]) hD hS hA [0] rfl
  refine va_calli (va_runV (As := [.int 0]) (rest := []) ⟨hx, hb, hml, hown, hts⟩ (c_isSlot0 l dC dI s.heap.size h0 x_tape x_reader x_current x_images x_kept x_slots x_diary x_base x_trial x_plan x_orders x_unanswered ) (cwV 1 hts (goodV w_1288 w_1289 w_1290 w_2 w_1291) rfl rfl rfl hdV_X8_isSlot ⟨Nat.le_of_ble_eq_true rfl, Nat.le_of_ble_eq_true rfl⟩) ⟨fun a U g mk q => by obtain ⟨q0, q1, qP, qK, qD⟩ := q; exact ⟨q0, q1, qP, va_K.moved (u := U) (U := U.calling g mk a) (Vm.Alike.refl U.vm) qK, qD⟩, va_recv hKc hPc (ci := 8) (q0 := 0) rfl rfl, fun U hU hW => ⟨rfl, by rw [hU], by rw [hU]; exact hPc, va_K.moved hW.alike hKc, hDc.weaken (fun _ _ _ _ => trivial)⟩⟩ rfl rfl hl.1 rfl (lv_room (Nat.le_of_ble_eq_true rfl)) dX8_row_2 ⟨Nat.le_of_ble_eq_true rfl, Nat.le_of_ble_eq_true rfl⟩) hS (fun q _ h => hFc q h) hFc (fun r_1 u t H1 locs ht hvm hw hB hz1 hk1 hS => ?_)
  obtain ⟨hP1, hK1, hD1⟩ := hB
  rw [ht] at hP1
  have hK1 := va_K.moved hvm.symm hK1
  obtain ⟨hP, hD⟩ := va_join (wr := [(x_slots, .inl (zk, 4, .inr (.inr (.inr (.inr (va_up (va_up (va_up (va_up (fun _ => none) 0 (some s0)) 1 (some s1)) 2 (some s2)) 3 (some s3))))))), (s0, .inr (5, [.ref y0, .int 0, .int 0, .int 0])), (y0, .inl (sk0, 60, .inr (.inl sf0)))]) (w1 := [(h0, .inr (8, [.ref x_tape, .ref x_reader, .ref x_current, .ref x_images, .ref x_kept, .ref x_slots, .ref x_diary, .ref x_base, .ref x_trial, .ref x_plan, .ref x_orders, .ref x_unanswered, .int 0, .int 0, .int (-1)]))]) hP hD [0] [1, 2, 3] rfl rfl (by decide) (by decide) hk1 hFc hP1 hD1
  clear hPc hDc hKc hFc
  generalize H1 = H at hP hS ⊢
  have hP : va_P (dC, dI) vwCl [(x_slots, .inl (zk, 4, .inr (.inr (.inr (.inr (va_up (va_up (va_up (va_up (fun _ => none) 0 (some s0)) 1 (some s1)) 2 (some s2)) 3 (some s3))))))), (s0, .inr (5, [.ref y0, .int 0, .int 0, .int 0])), (y0, .inl (sk0, 60, .inr (.inl sf0))), (h0, .inr (8, [.ref x_tape, .ref x_reader, .ref x_current, .ref x_images, .ref x_kept, .ref x_slots, .ref x_diary, .ref x_base, .ref x_trial, .ref x_plan, .ref x_orders, .ref x_unanswered, .int 0, .int 0, .int (-1)]))] H := hP
  have hD : va_D A [(x_slots, .inl (zk, 4, .inr (.inr (.inr (.inr (va_up (va_up (va_up (va_up (fun _ => none) 0 (some s0)) 1 (some s1)) 2 (some s2)) 3 (some s3))))))), (s0, .inr (5, [.ref y0, .int 0, .int 0, .int 0])), (y0, .inl (sk0, 60, .inr (.inl sf0))), (h0, .inr (8, [.ref x_tape, .ref x_reader, .ref x_current, .ref x_images, .ref x_kept, .ref x_slots, .ref x_diary, .ref x_base, .ref x_trial, .ref x_plan, .ref x_orders, .ref x_unanswered, .int 0, .int 0, .int (-1)]))] := hD
  have hw : r_1 = 1 := hw
  subst hw
  refine lv_if_eq (tgt := 23) hx hb dX8_row_5 (by decide) (fun c_2 => absurd c_2 (by decide)) (fun c_2 => ?_)
  refine lv_iload_n hx hb dX8_row_8 rfl (lv_at hl 2 rfl) ?_
  refine lv_if_lt (tgt := 23) hx hb dX8_row_9 (by decide) (fun c_3 => absurd (q_lt (a := a.toInt) (b := 0) rfl (by decide) c_3) (by omega)) (fun c_3 => ?_)
  have ec_3 := q_nlt (a := a.toInt) (b := 0) rfl (by decide) c_3
  refine lv_iload_n hx hb dX8_row_12 rfl (lv_at hl 2 rfl) ?_
  refine lv_iconst (v := 3) hx hb dX8_row_13 (by decide) ?_
  refine lv_icmp_gt (tgt := 23) hx hb dX8_row_14 (by decide) (fun c_4 => absurd (q_gt (a := a.toInt) (b := 3) rfl (by decide) c_4) (by omega)) (fun c_4 => ?_)
  have ec_4 := q_ngt (a := a.toInt) (b := 3) rfl (by decide) c_4
  refine lv_iload_n hx hb dX8_row_17 rfl (lv_at hl 3 rfl) ?_
  refine lv_bipush (v := 60) hx hb dX8_row_18 (by decide) ?_
  refine lv_icmp_le (tgt := 26) hx hb dX8_row_20 (by decide) (fun c_5 => ?_) (fun c_5 => absurd (q_nle (a := b.toInt) (b := 60) rfl (by decide) c_5) (by omega))
  have ec_5 := q_le (a := b.toInt) (b := 60) rfl (by decide) c_5
  refine lv_iload_n hx hb dX8_row_26 rfl (lv_at hl 3 rfl) ?_
  refine lv_if_ge (tgt := 33) hx hb dX8_row_27 (by decide) (fun c_6 => ?_) (fun c_6 => absurd (q_nge (a := b.toInt) (b := 0) rfl (by decide) c_6) (by omega))
  have ec_6 := q_ge (a := b.toInt) (b := 0) rfl (by decide) c_6
  refine lv_aload_n hx hb dX8_row_33 rfl (lv_at hl 0 rfl) ?_
  refine va_get (D := (dC, dI)) (ci := 8) (v := .ref x_slots) (C := RX8) (T := TX8) (N := 15) hx hb hts inA8 hown hK hP 3 rfl rfl 5 (by decide) (hts _ w_29) (fun _ h9 => h9) rfl dX8_row_34 ?_
  refine lv_iload_n hx hb dX8_row_37 rfl (lv_at hl 1 rfl) ?_
  refine va_aldq hx hb hK hP 0 0 rfl rfl (show vp_in 0 4 from (by unfold vp_in; decide)) dX8_row_38 ?_
  refine W.eq (g2 := F0 m 39 ls [.ref s0]) rfl ?_
  refine lv_iload_n hx hb dX8_row_39 rfl (lv_at hl 2 rfl) ?_
  refine lv_iload_n hx hb dX8_row_40 rfl (lv_at hl 3 rfl) ?_
  have hPc := hP.sub (ws' := [(s0, .inr (5, [.ref y0, .int 0, .int 0, .int 0])), (y0, .inl (sk0, 60, .inr (.inl sf0)))]) [1, 2] rfl
  have hDc := hD.sub (ws' := [(s0, .inr (5, [.ref y0, .int 0, .int 0, .int 0])), (y0, .inl (sk0, 60, .inr (.inl sf0)))]) [1, 2] (by decide) rfl
  have hKc := hK.sub (tys' := [(sk0, .long)]) [1] rfl
  have hFc := va_free (wc := [(s0, .inr (5, [.ref y0, .int 0, .int 0, .int 0])), (y0, .inl (sk0, 60, .inr (.inl sf0)))]) hD hS hA [1, 2] rfl
  refine va_callv (va_runV (As := [.int a, .int b]) (rest := []) ⟨hx, hb, hml, hown, hts⟩ (c_begin l dC dI H.size s0 y0 sk0 sf0 a b ) (cwV 2 hts (goodV w_1332 w_1333 w_1334 w_53 w_1335) rfl rfl rfl hdV_X5_begin ⟨Nat.le_of_ble_eq_true rfl, Nat.le_of_ble_eq_true rfl⟩) ⟨fun a U g mk q => by obtain ⟨q0, q1, qP, qK, qD⟩ := q; exact ⟨q0, q1, qP, va_K.moved (u := U) (U := U.calling g mk a) (Vm.Alike.refl U.vm) qK, qD⟩, va_recv hKc hPc (ci := 5) (q0 := 0) rfl rfl, fun U hU hW => ⟨rfl, by rw [hU], by rw [hU]; exact hPc, va_K.moved hW.alike hKc, hDc.weaken (fun _ _ _ _ => trivial)⟩⟩ rfl rfl hl.1 rfl (lv_room (Nat.le_of_ble_eq_true rfl)) dX8_row_41 ⟨Nat.le_of_ble_eq_true rfl, Nat.le_of_ble_eq_true rfl⟩) hS (fun q _ h => hFc q h) hFc (fun  u t H1 locs ht hvm hw hB hz1 hk1 hS => ?_)
  obtain ⟨hP, hD⟩ := va_join (wr := [(x_slots, .inl (zk, 4, .inr (.inr (.inr (.inr (va_up (va_up (va_up (va_up (fun _ => none) 0 (some s0)) 1 (some s1)) 2 (some s2)) 3 (some s3))))))), (h0, .inr (8, [.ref x_tape, .ref x_reader, .ref x_current, .ref x_images, .ref x_kept, .ref x_slots, .ref x_diary, .ref x_base, .ref x_trial, .ref x_plan, .ref x_orders, .ref x_unanswered, .int 0, .int 0, .int (-1)]))]) (w1 := []) hP hD [1, 2] [0, 3] rfl rfl (by decide) (by decide) hk1 hFc nilP nilD
  clear hPc hDc hKc hFc
  generalize H1 = H at hP hS ⊢
  have hP : va_P (dC, dI) vwCl [(x_slots, .inl (zk, 4, .inr (.inr (.inr (.inr (va_up (va_up (va_up (va_up (fun _ => none) 0 (some s0)) 1 (some s1)) 2 (some s2)) 3 (some s3))))))), (h0, .inr (8, [.ref x_tape, .ref x_reader, .ref x_current, .ref x_images, .ref x_kept, .ref x_slots, .ref x_diary, .ref x_base, .ref x_trial, .ref x_plan, .ref x_orders, .ref x_unanswered, .int 0, .int 0, .int (-1)]))] H := hP
  have hD : va_D A [(x_slots, .inl (zk, 4, .inr (.inr (.inr (.inr (va_up (va_up (va_up (va_up (fun _ => none) 0 (some s0)) 1 (some s1)) 2 (some s2)) 3 (some s3))))))), (h0, .inr (8, [.ref x_tape, .ref x_reader, .ref x_current, .ref x_images, .ref x_kept, .ref x_slots, .ref x_diary, .ref x_base, .ref x_trial, .ref x_plan, .ref x_orders, .ref x_unanswered, .int 0, .int 0, .int (-1)]))] := hD
  refine lv_iconst (v := 0) hx hb dX8_row_44 (by decide) ?_
  exact W.iret (v := 0) hx hb hr (fun t ht hW => ⟨⟨0, (), rfl, rfl, trivial⟩, hS.F ht⟩) hS.2.2 dX8_row_45
set_option maxHeartbeats 4000000 in
set_option maxRecDepth 100000 in
theorem x_rowB0 (l : Launch) (dC : Nat → ClassId) (dI : Nat → Nat → Nat) (sz : Nat) (h0 : Nat) (x_tape : Nat) (x_reader : Nat) (x_current : Nat) (x_images : Nat) (x_kept : Nat) (x_slots : Nat) (x_diary : Nat) (x_base : Nat) (x_trial : Nat) (x_plan : Nat) (x_orders : Nat) (x_unanswered : Nat) (a : Int32) (b : Int32) (h1 : 0 ≤ a.toInt) (h2 : a.toInt ≤ 3) (h3 : b.toInt < 0) : Met l yX8_row (.code yX8_row cX8_row 4 (some .int) :: ALLW) ({ frames := 1, cells := 0, slots := 0, locals := 21 }) (va_Pc [.ref h0, .int 0, .int a, .int b] (fun U => U.heap.size = sz ∧ va_P (dC, dI) vwCl [(h0, .inr (8, [.ref x_tape, .ref x_reader, .ref x_current, .ref x_images, .ref x_kept, .ref x_slots, .ref x_diary, .ref x_base, .ref x_trial, .ref x_plan, .ref x_orders, .ref x_unanswered, .int 0, .int 0, .int (-1)]))] U.heap ∧ va_K (dC, dI) vwCl [] U ∧ va_D (fun _ => True) [(h0, .inr (8, [.ref x_tape, .ref x_reader, .ref x_current, .ref x_images, .ref x_kept, .ref x_slots, .ref x_diary, .ref x_base, .ref x_trial, .ref x_plan, .ref x_orders, .ref x_unanswered, .int 0, .int 0, .int (-1)]))])) (va_Qi (fun (r : Int32) (_ : Unit) => r = (-3)) (fun (_ : Unit) (_ : State) => True) (va_A [(h0, .inr (8, [.ref x_tape, .ref x_reader, .ref x_current, .ref x_images, .ref x_kept, .ref x_slots, .ref x_diary, .ref x_base, .ref x_trial, .ref x_plan, .ref x_orders, .ref x_unanswered, .int 0, .int 0, .int (-1)]))] sz)) 0 0 (va_A [(h0, .inr (8, [.ref x_tape, .ref x_reader, .ref x_current, .ref x_images, .ref x_kept, .ref x_slots, .ref x_diary, .ref x_base, .ref x_trial, .ref x_plan, .ref x_orders, .ref x_unanswered, .int 0, .int 0, .int (-1)]))] sz) := by
  refine Met.ofW (cc := cX8_row) (maxL := 4) (ret := (some .int)) (by decide) rfl ?_
  intro p e s m args below meth c s₁ B hml hv
  obtain ⟨rfl, hsz, hP, hK, hD0⟩ := hv
  have hx := B.exec
  have hb := B.bytes
  have hr := B.returns
  have hts0 := atoms_spec (ws := (.code yX8_row cX8_row 4 (some .int) :: ALLW)) B.pre
  have hts := fun (w : Cond) (h : w ∈ ALLW) => hts0 w (List.mem_cons_of_mem _ h)
  have hown : s.vm.findClass RX8 = some m.cls := findClass_of_methodNamed B.named
  have hlocks := B.notSynchronized
  subst hsz
  have hD := hD0.self (sz := s.heap.size)
  generalize hAe : va_A [(h0, .inr (8, [.ref x_tape, .ref x_reader, .ref x_current, .ref x_images, .ref x_kept, .ref x_slots, .ref x_diary, .ref x_base, .ref x_trial, .ref x_plan, .ref x_orders, .ref x_unanswered, .int 0, .int 0, .int (-1)]))] s.heap.size = A at hD ⊢
  have hA : ∀ q : Nat, s.heap.size ≤ q → A q := fun q h => by rw [← hAe]; exact Or.inr h
  have hS : va_S A s.heap s.heap [] := va_S.rf
  have hP : va_P (dC, dI) vwCl [(h0, .inr (8, [.ref x_tape, .ref x_reader, .ref x_current, .ref x_images, .ref x_kept, .ref x_slots, .ref x_diary, .ref x_base, .ref x_trial, .ref x_plan, .ref x_orders, .ref x_unanswered, .int 0, .int 0, .int (-1)]))] s.heap := hP
  have hl := lv_entry ([.ref h0, .int 0, .int a, .int b]) (n := 4) (Nat.le_of_ble_eq_true rfl)
  rw [lg_entry_eq]
  generalize (lg_sl ([.ref h0, .int 0, .int a, .int b]) ++ List.replicate (4 - (lg_sl ([.ref h0, .int 0, .int a, .int b])).length) Slot.unset).toArray = ls at hl ⊢
  have hl : lv_has ls 4 [(0, .ref h0), (1, .int 0), (2, .int a), (3, .int b)] := hl
  refine lv_aload_n hx hb dX8_row_0 rfl (lv_at hl 0 rfl) ?_
  refine lv_iload_n hx hb dX8_row_1 rfl (lv_at hl 1 rfl) ?_
  have hPc := hP.sub (ws' := [(h0, .inr (8, [.ref x_tape, .ref x_reader, .ref x_current, .ref x_images, .ref x_kept, .ref x_slots, .ref x_diary, .ref x_base, .ref x_trial, .ref x_plan, .ref x_orders, .ref x_unanswered, .int 0, .int 0, .int (-1)]))]) [0] rfl
  have hDc := hD.sub (ws' := [(h0, .inr (8, [.ref x_tape, .ref x_reader, .ref x_current, .ref x_images, .ref x_kept, .ref x_slots, .ref x_diary, .ref x_base, .ref x_trial, .ref x_plan, .ref x_orders, .ref x_unanswered, .int 0, .int 0, .int (-1)]))]) [0] (by decide) rfl
  have hKc := hK.sub (tys' := []) [] rfl
  have hFc := va_free (wc := [(h0, .inr (8, [.ref x_tape, .ref x_reader, .ref x_current, .ref x_images, .ref x_kept, .ref x_slots, .ref x_diary, .ref x_base, .ref x_trial, .ref x_plan, .ref x_orders, .ref x_unanswered, .int 0, .int 0, .int (-1)]))]) hD hS hA [0] rfl
  refine va_calli (va_runV (As := [.int 0]) (rest := []) ⟨hx, hb, hml, hown, hts⟩ (c_isSlot0 l dC dI s.heap.size h0 x_tape x_reader x_current x_images x_kept x_slots x_diary x_base x_trial x_plan x_orders x_unanswered ) (cwV 1 hts (goodV w_1288 w_1289 w_1290 w_2 w_1291) rfl rfl rfl hdV_X8_isSlot ⟨Nat.le_of_ble_eq_true rfl, Nat.le_of_ble_eq_true rfl⟩) ⟨fun a U g mk q => by obtain ⟨q0, q1, qP, qK, qD⟩ := q; exact ⟨q0, q1, qP, va_K.moved (u := U) (U := U.calling g mk a) (Vm.Alike.refl U.vm) qK, qD⟩, va_recv hKc hPc (ci := 8) (q0 := 0) rfl rfl, fun U hU hW => ⟨rfl, by rw [hU], by rw [hU]; exact hPc, va_K.moved hW.alike hKc, hDc.weaken (fun _ _ _ _ => trivial)⟩⟩ rfl rfl hl.1 rfl (lv_room (Nat.le_of_ble_eq_true rfl)) dX8_row_2 ⟨Nat.le_of_ble_eq_true rfl, Nat.le_of_ble_eq_true rfl⟩) hS (fun q _ h => hFc q h) hFc (fun r_1 u t H1 locs ht hvm hw hB hz1 hk1 hS => ?_)
  obtain ⟨hP1, hK1, hD1⟩ := hB
  rw [ht] at hP1
  have hK1 := va_K.moved hvm.symm hK1
  obtain ⟨hP, hD⟩ := va_join (wr := []) (w1 := [(h0, .inr (8, [.ref x_tape, .ref x_reader, .ref x_current, .ref x_images, .ref x_kept, .ref x_slots, .ref x_diary, .ref x_base, .ref x_trial, .ref x_plan, .ref x_orders, .ref x_unanswered, .int 0, .int 0, .int (-1)]))]) hP hD [0] [] rfl rfl (by decide) (by decide) hk1 hFc hP1 hD1
  clear hPc hDc hKc hFc
  generalize H1 = H at hP hS ⊢
  have hP : va_P (dC, dI) vwCl [(h0, .inr (8, [.ref x_tape, .ref x_reader, .ref x_current, .ref x_images, .ref x_kept, .ref x_slots, .ref x_diary, .ref x_base, .ref x_trial, .ref x_plan, .ref x_orders, .ref x_unanswered, .int 0, .int 0, .int (-1)]))] H := hP
  have hD : va_D A [(h0, .inr (8, [.ref x_tape, .ref x_reader, .ref x_current, .ref x_images, .ref x_kept, .ref x_slots, .ref x_diary, .ref x_base, .ref x_trial, .ref x_plan, .ref x_orders, .ref x_unanswered, .int 0, .int 0, .int (-1)]))] := hD
  have hw : r_1 = 1 := hw
  subst hw
  refine lv_if_eq (tgt := 23) hx hb dX8_row_5 (by decide) (fun c_2 => absurd c_2 (by decide)) (fun c_2 => ?_)
  refine lv_iload_n hx hb dX8_row_8 rfl (lv_at hl 2 rfl) ?_
  refine lv_if_lt (tgt := 23) hx hb dX8_row_9 (by decide) (fun c_3 => absurd (q_lt (a := a.toInt) (b := 0) rfl (by decide) c_3) (by omega)) (fun c_3 => ?_)
  have ec_3 := q_nlt (a := a.toInt) (b := 0) rfl (by decide) c_3
  refine lv_iload_n hx hb dX8_row_12 rfl (lv_at hl 2 rfl) ?_
  refine lv_iconst (v := 3) hx hb dX8_row_13 (by decide) ?_
  refine lv_icmp_gt (tgt := 23) hx hb dX8_row_14 (by decide) (fun c_4 => absurd (q_gt (a := a.toInt) (b := 3) rfl (by decide) c_4) (by omega)) (fun c_4 => ?_)
  have ec_4 := q_ngt (a := a.toInt) (b := 3) rfl (by decide) c_4
  refine lv_iload_n hx hb dX8_row_17 rfl (lv_at hl 3 rfl) ?_
  refine lv_bipush (v := 60) hx hb dX8_row_18 (by decide) ?_
  refine lv_icmp_le (tgt := 26) hx hb dX8_row_20 (by decide) (fun c_5 => ?_) (fun c_5 => absurd (q_nle (a := b.toInt) (b := 60) rfl (by decide) c_5) (by omega))
  have ec_5 := q_le (a := b.toInt) (b := 60) rfl (by decide) c_5
  refine lv_iload_n hx hb dX8_row_26 rfl (lv_at hl 3 rfl) ?_
  refine lv_if_ge (tgt := 33) hx hb dX8_row_27 (by decide) (fun c_6 => absurd (q_ge (a := b.toInt) (b := 0) rfl (by decide) c_6) (by omega)) (fun c_6 => ?_)
  have ec_6 := q_nge (a := b.toInt) (b := 0) rfl (by decide) c_6
  refine lv_bipush (v := (-3)) hx hb dX8_row_30 (by decide) ?_
  exact W.iret (v := (-3)) hx hb hr (fun t ht hW => ⟨⟨(-3), (), rfl, rfl, trivial⟩, hS.F ht⟩) hS.2.2 dX8_row_32
set_option maxHeartbeats 4000000 in
set_option maxRecDepth 100000 in
theorem x_rowN0 (l : Launch) (dC : Nat → ClassId) (dI : Nat → Nat → Nat) (sz : Nat) (h0 : Nat) (x_tape : Nat) (x_reader : Nat) (x_current : Nat) (x_images : Nat) (x_kept : Nat) (x_slots : Nat) (x_diary : Nat) (x_base : Nat) (x_trial : Nat) (x_plan : Nat) (x_orders : Nat) (x_unanswered : Nat) (a : Int32) (b : Int32) (h1 : a.toInt < 0 ∨ 3 < a.toInt ∨ 60 < b.toInt) : Met l yX8_row (.code yX8_row cX8_row 4 (some .int) :: ALLW) ({ frames := 1, cells := 0, slots := 0, locals := 21 }) (va_Pc [.ref h0, .int 0, .int a, .int b] (fun U => U.heap.size = sz ∧ va_P (dC, dI) vwCl [(h0, .inr (8, [.ref x_tape, .ref x_reader, .ref x_current, .ref x_images, .ref x_kept, .ref x_slots, .ref x_diary, .ref x_base, .ref x_trial, .ref x_plan, .ref x_orders, .ref x_unanswered, .int 0, .int 0, .int (-1)]))] U.heap ∧ va_K (dC, dI) vwCl [] U ∧ va_D (fun _ => True) [(h0, .inr (8, [.ref x_tape, .ref x_reader, .ref x_current, .ref x_images, .ref x_kept, .ref x_slots, .ref x_diary, .ref x_base, .ref x_trial, .ref x_plan, .ref x_orders, .ref x_unanswered, .int 0, .int 0, .int (-1)]))])) (va_Qi (fun (r : Int32) (_ : Unit) => r = (-2)) (fun (_ : Unit) (_ : State) => True) (va_A [(h0, .inr (8, [.ref x_tape, .ref x_reader, .ref x_current, .ref x_images, .ref x_kept, .ref x_slots, .ref x_diary, .ref x_base, .ref x_trial, .ref x_plan, .ref x_orders, .ref x_unanswered, .int 0, .int 0, .int (-1)]))] sz)) 0 0 (va_A [(h0, .inr (8, [.ref x_tape, .ref x_reader, .ref x_current, .ref x_images, .ref x_kept, .ref x_slots, .ref x_diary, .ref x_base, .ref x_trial, .ref x_plan, .ref x_orders, .ref x_unanswered, .int 0, .int 0, .int (-1)]))] sz) := by
  refine Met.ofW (cc := cX8_row) (maxL := 4) (ret := (some .int)) (by decide) rfl ?_
  intro p e s m args below meth c s₁ B hml hv
  obtain ⟨rfl, hsz, hP, hK, hD0⟩ := hv
  have hx := B.exec
  have hb := B.bytes
  have hr := B.returns
  have hts0 := atoms_spec (ws := (.code yX8_row cX8_row 4 (some .int) :: ALLW)) B.pre
  have hts := fun (w : Cond) (h : w ∈ ALLW) => hts0 w (List.mem_cons_of_mem _ h)
  have hown : s.vm.findClass RX8 = some m.cls := findClass_of_methodNamed B.named
  have hlocks := B.notSynchronized
  subst hsz
  have hD := hD0.self (sz := s.heap.size)
  generalize hAe : va_A [(h0, .inr (8, [.ref x_tape, .ref x_reader, .ref x_current, .ref x_images, .ref x_kept, .ref x_slots, .ref x_diary, .ref x_base, .ref x_trial, .ref x_plan, .ref x_orders, .ref x_unanswered, .int 0, .int 0, .int (-1)]))] s.heap.size = A at hD ⊢
  have hA : ∀ q : Nat, s.heap.size ≤ q → A q := fun q h => by rw [← hAe]; exact Or.inr h
  have hS : va_S A s.heap s.heap [] := va_S.rf
  have hP : va_P (dC, dI) vwCl [(h0, .inr (8, [.ref x_tape, .ref x_reader, .ref x_current, .ref x_images, .ref x_kept, .ref x_slots, .ref x_diary, .ref x_base, .ref x_trial, .ref x_plan, .ref x_orders, .ref x_unanswered, .int 0, .int 0, .int (-1)]))] s.heap := hP
  have hl := lv_entry ([.ref h0, .int 0, .int a, .int b]) (n := 4) (Nat.le_of_ble_eq_true rfl)
  rw [lg_entry_eq]
  generalize (lg_sl ([.ref h0, .int 0, .int a, .int b]) ++ List.replicate (4 - (lg_sl ([.ref h0, .int 0, .int a, .int b])).length) Slot.unset).toArray = ls at hl ⊢
  have hl : lv_has ls 4 [(0, .ref h0), (1, .int 0), (2, .int a), (3, .int b)] := hl
  refine lv_aload_n hx hb dX8_row_0 rfl (lv_at hl 0 rfl) ?_
  refine lv_iload_n hx hb dX8_row_1 rfl (lv_at hl 1 rfl) ?_
  have hPc := hP.sub (ws' := [(h0, .inr (8, [.ref x_tape, .ref x_reader, .ref x_current, .ref x_images, .ref x_kept, .ref x_slots, .ref x_diary, .ref x_base, .ref x_trial, .ref x_plan, .ref x_orders, .ref x_unanswered, .int 0, .int 0, .int (-1)]))]) [0] rfl
  have hDc := hD.sub (ws' := [(h0, .inr (8, [.ref x_tape, .ref x_reader, .ref x_current, .ref x_images, .ref x_kept, .ref x_slots, .ref x_diary, .ref x_base, .ref x_trial, .ref x_plan, .ref x_orders, .ref x_unanswered, .int 0, .int 0, .int (-1)]))]) [0] (by decide) rfl
  have hKc := hK.sub (tys' := []) [] rfl
  have hFc := va_free (wc := [(h0, .inr (8, [.ref x_tape, .ref x_reader, .ref x_current, .ref x_images, .ref x_kept, .ref x_slots, .ref x_diary, .ref x_base, .ref x_trial, .ref x_plan, .ref x_orders, .ref x_unanswered, .int 0, .int 0, .int (-1)]))]) hD hS hA [0] rfl
  refine va_calli (va_runV (As := [.int 0]) (rest := []) ⟨hx, hb, hml, hown, hts⟩ (c_isSlot0 l dC dI s.heap.size h0 x_tape x_reader x_current x_images x_kept x_slots x_diary x_base x_trial x_plan x_orders x_unanswered ) (cwV 1 hts (goodV w_1288 w_1289 w_1290 w_2 w_1291) rfl rfl rfl hdV_X8_isSlot ⟨Nat.le_of_ble_eq_true rfl, Nat.le_of_ble_eq_true rfl⟩) ⟨fun a U g mk q => by obtain ⟨q0, q1, qP, qK, qD⟩ := q; exact ⟨q0, q1, qP, va_K.moved (u := U) (U := U.calling g mk a) (Vm.Alike.refl U.vm) qK, qD⟩, va_recv hKc hPc (ci := 8) (q0 := 0) rfl rfl, fun U hU hW => ⟨rfl, by rw [hU], by rw [hU]; exact hPc, va_K.moved hW.alike hKc, hDc.weaken (fun _ _ _ _ => trivial)⟩⟩ rfl rfl hl.1 rfl (lv_room (Nat.le_of_ble_eq_true rfl)) dX8_row_2 ⟨Nat.le_of_ble_eq_true rfl, Nat.le_of_ble_eq_true rfl⟩) hS (fun q _ h => hFc q h) hFc (fun r_1 u t H1 locs ht hvm hw hB hz1 hk1 hS => ?_)
  obtain ⟨hP1, hK1, hD1⟩ := hB
  rw [ht] at hP1
  have hK1 := va_K.moved hvm.symm hK1
  obtain ⟨hP, hD⟩ := va_join (wr := []) (w1 := [(h0, .inr (8, [.ref x_tape, .ref x_reader, .ref x_current, .ref x_images, .ref x_kept, .ref x_slots, .ref x_diary, .ref x_base, .ref x_trial, .ref x_plan, .ref x_orders, .ref x_unanswered, .int 0, .int 0, .int (-1)]))]) hP hD [0] [] rfl rfl (by decide) (by decide) hk1 hFc hP1 hD1
  clear hPc hDc hKc hFc
  generalize H1 = H at hP hS ⊢
  have hP : va_P (dC, dI) vwCl [(h0, .inr (8, [.ref x_tape, .ref x_reader, .ref x_current, .ref x_images, .ref x_kept, .ref x_slots, .ref x_diary, .ref x_base, .ref x_trial, .ref x_plan, .ref x_orders, .ref x_unanswered, .int 0, .int 0, .int (-1)]))] H := hP
  have hD : va_D A [(h0, .inr (8, [.ref x_tape, .ref x_reader, .ref x_current, .ref x_images, .ref x_kept, .ref x_slots, .ref x_diary, .ref x_base, .ref x_trial, .ref x_plan, .ref x_orders, .ref x_unanswered, .int 0, .int 0, .int (-1)]))] := hD
  have hw : r_1 = 1 := hw
  subst hw
  refine lv_if_eq (tgt := 23) hx hb dX8_row_5 (by decide) (fun c_2 => absurd c_2 (by decide)) (fun c_2 => ?_)
  refine lv_iload_n hx hb dX8_row_8 rfl (lv_at hl 2 rfl) ?_
  refine lv_if_lt (tgt := 23) hx hb dX8_row_9 (by decide) (fun c_3 => ?_) (fun c_3 => ?_)
  · have ec_3 := q_lt (a := a.toInt) (b := 0) rfl (by decide) c_3
    refine lv_bipush (v := (-2)) hx hb dX8_row_23 (by decide) ?_
    exact W.iret (v := (-2)) hx hb hr (fun t ht hW => ⟨⟨(-2), (), rfl, rfl, trivial⟩, hS.F ht⟩) hS.2.2 dX8_row_25
  · have ec_3 := q_nlt (a := a.toInt) (b := 0) rfl (by decide) c_3
    refine lv_iload_n hx hb dX8_row_12 rfl (lv_at hl 2 rfl) ?_
    refine lv_iconst (v := 3) hx hb dX8_row_13 (by decide) ?_
    refine lv_icmp_gt (tgt := 23) hx hb dX8_row_14 (by decide) (fun c_4 => ?_) (fun c_4 => ?_)
    · have ec_4 := q_gt (a := a.toInt) (b := 3) rfl (by decide) c_4
      refine lv_bipush (v := (-2)) hx hb dX8_row_23 (by decide) ?_
      exact W.iret (v := (-2)) hx hb hr (fun t ht hW => ⟨⟨(-2), (), rfl, rfl, trivial⟩, hS.F ht⟩) hS.2.2 dX8_row_25
    · have ec_4 := q_ngt (a := a.toInt) (b := 3) rfl (by decide) c_4
      refine lv_iload_n hx hb dX8_row_17 rfl (lv_at hl 3 rfl) ?_
      refine lv_bipush (v := 60) hx hb dX8_row_18 (by decide) ?_
      refine lv_icmp_le (tgt := 26) hx hb dX8_row_20 (by decide) (fun c_5 => absurd (q_le (a := b.toInt) (b := 60) rfl (by decide) c_5) (by omega)) (fun c_5 => ?_)
      have ec_5 := q_nle (a := b.toInt) (b := 60) rfl (by decide) c_5
      refine lv_bipush (v := (-2)) hx hb dX8_row_23 (by decide) ?_
      exact W.iret (v := (-2)) hx hb hr (fun t ht hW => ⟨⟨(-2), (), rfl, rfl, trivial⟩, hS.F ht⟩) hS.2.2 dX8_row_25
set_option maxHeartbeats 4000000 in
set_option maxRecDepth 100000 in
theorem x_write0 (l : Launch) (dC : Nat → ClassId) (dI : Nat → Nat → Nat) (sz : Nat) (h0 : Nat) (x_tape : Nat) (x_reader : Nat) (x_current : Nat) (x_images : Nat) (x_kept : Nat) (x_slots : Nat) (x_diary : Nat) (x_base : Nat) (x_trial : Nat) (x_plan : Nat) (x_orders : Nat) (x_unanswered : Nat) (s0 : Nat) (s1 : Nat) (s2 : Nat) (s3 : Nat) (y0 : Nat) (y1 : Nat) (y2 : Nat) (y3 : Nat) (zk : ClassId) (a : Int32) (b : Int64)  : Met l yX8_write (.code yX8_write cX8_write 6 (some .int) :: ALLW) ({ frames := 1, cells := 0, slots := 0, locals := 21 }) (va_Pc [.ref h0, .int 0, .int a, .long b] (fun U => U.heap.size = sz ∧ va_P (dC, dI) vwCl [(h0, .inr (8, [.ref x_tape, .ref x_reader, .ref x_current, .ref x_images, .ref x_kept, .ref x_slots, .ref x_diary, .ref x_base, .ref x_trial, .ref x_plan, .ref x_orders, .ref x_unanswered, .int 0, .int 0, .int (-1)])), (x_slots, .inl (zk, 4, .inr (.inr (.inr (.inr (va_up (va_up (va_up (va_up (fun _ => none) 0 (some s0)) 1 (some s1)) 2 (some s2)) 3 (some s3))))))), (s0, .inr (5, [.ref y0, .int 0, .int 0, .int 0]))] U.heap ∧ va_K (dC, dI) vwCl [(zk, .object RX5)] U ∧ va_D (fun _ => True) [(h0, .inr (8, [.ref x_tape, .ref x_reader, .ref x_current, .ref x_images, .ref x_kept, .ref x_slots, .ref x_diary, .ref x_base, .ref x_trial, .ref x_plan, .ref x_orders, .ref x_unanswered, .int 0, .int 0, .int (-1)])), (x_slots, .inl (zk, 4, .inr (.inr (.inr (.inr (va_up (va_up (va_up (va_up (fun _ => none) 0 (some s0)) 1 (some s1)) 2 (some s2)) 3 (some s3))))))), (s0, .inr (5, [.ref y0, .int 0, .int 0, .int 0]))])) (va_Qi (fun (r : Int32) (_ : Unit) => r = (-6)) (fun (_ : Unit) (_ : State) => True) (va_A [(h0, .inr (8, [.ref x_tape, .ref x_reader, .ref x_current, .ref x_images, .ref x_kept, .ref x_slots, .ref x_diary, .ref x_base, .ref x_trial, .ref x_plan, .ref x_orders, .ref x_unanswered, .int 0, .int 0, .int (-1)])), (x_slots, .inl (zk, 4, .inr (.inr (.inr (.inr (va_up (va_up (va_up (va_up (fun _ => none) 0 (some s0)) 1 (some s1)) 2 (some s2)) 3 (some s3))))))), (s0, .inr (5, [.ref y0, .int 0, .int 0, .int 0]))] sz)) 0 0 (va_A [(h0, .inr (8, [.ref x_tape, .ref x_reader, .ref x_current, .ref x_images, .ref x_kept, .ref x_slots, .ref x_diary, .ref x_base, .ref x_trial, .ref x_plan, .ref x_orders, .ref x_unanswered, .int 0, .int 0, .int (-1)])), (x_slots, .inl (zk, 4, .inr (.inr (.inr (.inr (va_up (va_up (va_up (va_up (fun _ => none) 0 (some s0)) 1 (some s1)) 2 (some s2)) 3 (some s3))))))), (s0, .inr (5, [.ref y0, .int 0, .int 0, .int 0]))] sz) := by
  refine Met.ofW (cc := cX8_write) (maxL := 6) (ret := (some .int)) (by decide) rfl ?_
  intro p e s m args below meth c s₁ B hml hv
  obtain ⟨rfl, hsz, hP, hK, hD0⟩ := hv
  have hx := B.exec
  have hb := B.bytes
  have hr := B.returns
  have hts0 := atoms_spec (ws := (.code yX8_write cX8_write 6 (some .int) :: ALLW)) B.pre
  have hts := fun (w : Cond) (h : w ∈ ALLW) => hts0 w (List.mem_cons_of_mem _ h)
  have hown : s.vm.findClass RX8 = some m.cls := findClass_of_methodNamed B.named
  have hlocks := B.notSynchronized
  subst hsz
  have hD := hD0.self (sz := s.heap.size)
  generalize hAe : va_A [(h0, .inr (8, [.ref x_tape, .ref x_reader, .ref x_current, .ref x_images, .ref x_kept, .ref x_slots, .ref x_diary, .ref x_base, .ref x_trial, .ref x_plan, .ref x_orders, .ref x_unanswered, .int 0, .int 0, .int (-1)])), (x_slots, .inl (zk, 4, .inr (.inr (.inr (.inr (va_up (va_up (va_up (va_up (fun _ => none) 0 (some s0)) 1 (some s1)) 2 (some s2)) 3 (some s3))))))), (s0, .inr (5, [.ref y0, .int 0, .int 0, .int 0]))] s.heap.size = A at hD ⊢
  have hA : ∀ q : Nat, s.heap.size ≤ q → A q := fun q h => by rw [← hAe]; exact Or.inr h
  have hS : va_S A s.heap s.heap [] := va_S.rf
  have hP : va_P (dC, dI) vwCl [(h0, .inr (8, [.ref x_tape, .ref x_reader, .ref x_current, .ref x_images, .ref x_kept, .ref x_slots, .ref x_diary, .ref x_base, .ref x_trial, .ref x_plan, .ref x_orders, .ref x_unanswered, .int 0, .int 0, .int (-1)])), (x_slots, .inl (zk, 4, .inr (.inr (.inr (.inr (va_up (va_up (va_up (va_up (fun _ => none) 0 (some s0)) 1 (some s1)) 2 (some s2)) 3 (some s3))))))), (s0, .inr (5, [.ref y0, .int 0, .int 0, .int 0]))] s.heap := hP
  have hl := lv_entry ([.ref h0, .int 0, .int a, .long b]) (n := 6) (Nat.le_of_ble_eq_true rfl)
  rw [lg_entry_eq]
  generalize (lg_sl ([.ref h0, .int 0, .int a, .long b]) ++ List.replicate (6 - (lg_sl ([.ref h0, .int 0, .int a, .long b])).length) Slot.unset).toArray = ls at hl ⊢
  have hl : lv_has ls 6 [(0, .ref h0), (1, .int 0), (2, .int a), (3, .long b)] := hl
  refine lv_aload_n hx hb dX8_write_0 rfl (lv_at hl 0 rfl) ?_
  refine lv_iload_n hx hb dX8_write_1 rfl (lv_at hl 1 rfl) ?_
  have hPc := hP.sub (ws' := [(h0, .inr (8, [.ref x_tape, .ref x_reader, .ref x_current, .ref x_images, .ref x_kept, .ref x_slots, .ref x_diary, .ref x_base, .ref x_trial, .ref x_plan, .ref x_orders, .ref x_unanswered, .int 0, .int 0, .int (-1)]))]) [0] rfl
  have hDc := hD.sub (ws' := [(h0, .inr (8, [.ref x_tape, .ref x_reader, .ref x_current, .ref x_images, .ref x_kept, .ref x_slots, .ref x_diary, .ref x_base, .ref x_trial, .ref x_plan, .ref x_orders, .ref x_unanswered, .int 0, .int 0, .int (-1)]))]) [0] (by decide) rfl
  have hKc := hK.sub (tys' := []) [] rfl
  have hFc := va_free (wc := [(h0, .inr (8, [.ref x_tape, .ref x_reader, .ref x_current, .ref x_images, .ref x_kept, .ref x_slots, .ref x_diary, .ref x_base, .ref x_trial, .ref x_plan, .ref x_orders, .ref x_unanswered, .int 0, .int 0, .int (-1)]))]) hD hS hA [0] rfl
  refine va_calli (va_runV (As := [.int 0]) (rest := []) ⟨hx, hb, hml, hown, hts⟩ (c_isSlot0 l dC dI s.heap.size h0 x_tape x_reader x_current x_images x_kept x_slots x_diary x_base x_trial x_plan x_orders x_unanswered ) (cwV 1 hts (goodV w_1288 w_1289 w_1290 w_2 w_1291) rfl rfl rfl hdV_X8_isSlot ⟨Nat.le_of_ble_eq_true rfl, Nat.le_of_ble_eq_true rfl⟩) ⟨fun a U g mk q => by obtain ⟨q0, q1, qP, qK, qD⟩ := q; exact ⟨q0, q1, qP, va_K.moved (u := U) (U := U.calling g mk a) (Vm.Alike.refl U.vm) qK, qD⟩, va_recv hKc hPc (ci := 8) (q0 := 0) rfl rfl, fun U hU hW => ⟨rfl, by rw [hU], by rw [hU]; exact hPc, va_K.moved hW.alike hKc, hDc.weaken (fun _ _ _ _ => trivial)⟩⟩ rfl rfl hl.1 rfl (lv_room (Nat.le_of_ble_eq_true rfl)) dX8_write_2 ⟨Nat.le_of_ble_eq_true rfl, Nat.le_of_ble_eq_true rfl⟩) hS (fun q _ h => hFc q h) hFc (fun r_1 u t H1 locs ht hvm hw hB hz1 hk1 hS => ?_)
  obtain ⟨hP1, hK1, hD1⟩ := hB
  rw [ht] at hP1
  have hK1 := va_K.moved hvm.symm hK1
  obtain ⟨hP, hD⟩ := va_join (wr := [(x_slots, .inl (zk, 4, .inr (.inr (.inr (.inr (va_up (va_up (va_up (va_up (fun _ => none) 0 (some s0)) 1 (some s1)) 2 (some s2)) 3 (some s3))))))), (s0, .inr (5, [.ref y0, .int 0, .int 0, .int 0]))]) (w1 := [(h0, .inr (8, [.ref x_tape, .ref x_reader, .ref x_current, .ref x_images, .ref x_kept, .ref x_slots, .ref x_diary, .ref x_base, .ref x_trial, .ref x_plan, .ref x_orders, .ref x_unanswered, .int 0, .int 0, .int (-1)]))]) hP hD [0] [1, 2] rfl rfl (by decide) (by decide) hk1 hFc hP1 hD1
  clear hPc hDc hKc hFc
  generalize H1 = H at hP hS ⊢
  have hP : va_P (dC, dI) vwCl [(x_slots, .inl (zk, 4, .inr (.inr (.inr (.inr (va_up (va_up (va_up (va_up (fun _ => none) 0 (some s0)) 1 (some s1)) 2 (some s2)) 3 (some s3))))))), (s0, .inr (5, [.ref y0, .int 0, .int 0, .int 0])), (h0, .inr (8, [.ref x_tape, .ref x_reader, .ref x_current, .ref x_images, .ref x_kept, .ref x_slots, .ref x_diary, .ref x_base, .ref x_trial, .ref x_plan, .ref x_orders, .ref x_unanswered, .int 0, .int 0, .int (-1)]))] H := hP
  have hD : va_D A [(x_slots, .inl (zk, 4, .inr (.inr (.inr (.inr (va_up (va_up (va_up (va_up (fun _ => none) 0 (some s0)) 1 (some s1)) 2 (some s2)) 3 (some s3))))))), (s0, .inr (5, [.ref y0, .int 0, .int 0, .int 0])), (h0, .inr (8, [.ref x_tape, .ref x_reader, .ref x_current, .ref x_images, .ref x_kept, .ref x_slots, .ref x_diary, .ref x_base, .ref x_trial, .ref x_plan, .ref x_orders, .ref x_unanswered, .int 0, .int 0, .int (-1)]))] := hD
  have hw : r_1 = 1 := hw
  subst hw
  refine lv_if_ne (tgt := 11) hx hb dX8_write_5 (by decide) (fun c_2 => ?_) (fun c_2 => absurd c_2 (by decide))
  refine lv_aload_n hx hb dX8_write_11 rfl (lv_at hl 0 rfl) ?_
  refine va_get (D := (dC, dI)) (ci := 8) (v := .ref x_slots) (C := RX8) (T := TX8) (N := 15) hx hb hts inA8 hown hK hP 2 rfl rfl 5 (by decide) (hts _ w_29) (fun _ h9 => h9) rfl dX8_write_12 ?_
  refine lv_iload_n hx hb dX8_write_15 rfl (lv_at hl 1 rfl) ?_
  refine va_aldq hx hb hK hP 0 0 rfl rfl (show vp_in 0 4 from (by unfold vp_in; decide)) dX8_write_16 ?_
  refine W.eq (g2 := F0 m 17 ls [.ref s0]) rfl ?_
  refine lv_astore (lv' := [(5, .ref s0), (0, .ref h0), (1, .int 0), (2, .int a), (3, .long b)]) hx hb dX8_write_17 hl (by decide) rfl (fun ls hl => ?_)
  refine lv_aload hx hb dX8_write_19 (lv_at hl 0 rfl) ?_
  refine va_get (D := (dC, dI)) (ci := 5) (v := .int 0) (C := RX5) (T := TX5) (N := 4) hx hb hts inA5 hown hK hP 1 rfl rfl 1 (by decide) (hts _ w_1283) (fun _ h9 => h9) rfl dX8_write_21 ?_
  refine lv_if_ne (tgt := 30) hx hb dX8_write_24 (by decide) (fun c_3 => absurd (by decide) c_3) (fun c_3 => ?_)
  refine lv_bipush (v := (-6)) hx hb dX8_write_27 (by decide) ?_
  exact W.iret (v := (-6)) hx hb hr (fun t ht hW => ⟨⟨(-6), (), rfl, rfl, trivial⟩, hS.F ht⟩) hS.2.2 dX8_write_29
set_option maxHeartbeats 4000000 in
set_option maxRecDepth 100000 in
theorem x_row1 (l : Launch) (dC : Nat → ClassId) (dI : Nat → Nat → Nat) (sz : Nat) (h0 : Nat) (x_tape : Nat) (x_reader : Nat) (x_current : Nat) (x_images : Nat) (x_kept : Nat) (x_slots : Nat) (x_diary : Nat) (x_base : Nat) (x_trial : Nat) (x_plan : Nat) (x_orders : Nat) (x_unanswered : Nat) (s0 : Nat) (s1 : Nat) (s2 : Nat) (s3 : Nat) (y0 : Nat) (y1 : Nat) (y2 : Nat) (y3 : Nat) (zk : ClassId) (sk1 : ClassId) (sf1 : Nat → Int64) (a : Int32) (b : Int32) (h1 : 0 ≤ a.toInt) (h2 : a.toInt ≤ 3) (h3 : 0 ≤ b.toInt) (h4 : b.toInt ≤ 60) : Met l yX8_row (.code yX8_row cX8_row 4 (some .int) :: ALLW) ({ frames := 2, cells := 0, slots := 0, locals := 46 }) (va_Pc [.ref h0, .int 1, .int a, .int b] (fun U => U.heap.size = sz ∧ va_P (dC, dI) vwCl [(h0, .inr (8, [.ref x_tape, .ref x_reader, .ref x_current, .ref x_images, .ref x_kept, .ref x_slots, .ref x_diary, .ref x_base, .ref x_trial, .ref x_plan, .ref x_orders, .ref x_unanswered, .int 0, .int 0, .int (-1)])), (x_slots, .inl (zk, 4, .inr (.inr (.inr (.inr (va_up (va_up (va_up (va_up (fun _ => none) 0 (some s0)) 1 (some s1)) 2 (some s2)) 3 (some s3))))))), (s1, .inr (5, [.ref y1, .int 0, .int 0, .int 0])), (y1, .inl (sk1, 60, .inr (.inl sf1)))] U.heap ∧ va_K (dC, dI) vwCl [(zk, .object RX5), (sk1, .long)] U ∧ va_D (fun _ => True) [(h0, .inr (8, [.ref x_tape, .ref x_reader, .ref x_current, .ref x_images, .ref x_kept, .ref x_slots, .ref x_diary, .ref x_base, .ref x_trial, .ref x_plan, .ref x_orders, .ref x_unanswered, .int 0, .int 0, .int (-1)])), (x_slots, .inl (zk, 4, .inr (.inr (.inr (.inr (va_up (va_up (va_up (va_up (fun _ => none) 0 (some s0)) 1 (some s1)) 2 (some s2)) 3 (some s3))))))), (s1, .inr (5, [.ref y1, .int 0, .int 0, .int 0])), (y1, .inl (sk1, 60, .inr (.inl sf1)))])) (va_Qi (fun (r : Int32) (_ : Unit) => r = 0) (fun (_ : Unit) (_ : State) => True) (va_A [(h0, .inr (8, [.ref x_tape, .ref x_reader, .ref x_current, .ref x_images, .ref x_kept, .ref x_slots, .ref x_diary, .ref x_base, .ref x_trial, .ref x_plan, .ref x_orders, .ref x_unanswered, .int 0, .int 0, .int (-1)])), (x_slots, .inl (zk, 4, .inr (.inr (.inr (.inr (va_up (va_up (va_up (va_up (fun _ => none) 0 (some s0)) 1 (some s1)) 2 (some s2)) 3 (some s3))))))), (s1, .inr (5, [.ref y1, .int 0, .int 0, .int 0])), (y1, .inl (sk1, 60, .inr (.inl sf1)))] sz)) 0 0 (va_A [(h0, .inr (8, [.ref x_tape, .ref x_reader, .ref x_current, .ref x_images, .ref x_kept, .ref x_slots, .ref x_diary, .ref x_base, .ref x_trial, .ref x_plan, .ref x_orders, .ref x_unanswered, .int 0, .int 0, .int (-1)])), (x_slots, .inl (zk, 4, .inr (.inr (.inr (.inr (va_up (va_up (va_up (va_up (fun _ => none) 0 (some s0)) 1 (some s1)) 2 (some s2)) 3 (some s3))))))), (s1, .inr (5, [.ref y1, .int 0, .int 0, .int 0])), (y1, .inl (sk1, 60, .inr (.inl sf1)))] sz) := by
  refine Met.ofW (cc := cX8_row) (maxL := 4) (ret := (some .int)) (by decide) rfl ?_
  intro p e s m args below meth c s₁ B hml hv
  obtain ⟨rfl, hsz, hP, hK, hD0⟩ := hv
  have hx := B.exec
  have hb := B.bytes
  have hr := B.returns
  have hts0 := atoms_spec (ws := (.code yX8_row cX8_row 4 (some .int) :: ALLW)) B.pre
  have hts := fun (w : Cond) (h : w ∈ ALLW) => hts0 w (List.mem_cons_of_mem _ h)
  have hown : s.vm.findClass RX8 = some m.cls := findClass_of_methodNamed B.named
  have hlocks := B.notSynchronized
  subst hsz
  have hD := hD0.self (sz := s.heap.size)
  generalize hAe : va_A [(h0, .inr (8, [.ref x_tape, .ref x_reader, .ref x_current, .ref x_images, .ref x_kept, .ref x_slots, .ref x_diary, .ref x_base, .ref x_trial, .ref x_plan, .ref x_orders, .ref x_unanswered, .int 0, .int 0, .int (-1)])), (x_slots, .inl (zk, 4, .inr (.inr (.inr (.inr (va_up (va_up (va_up (va_up (fun _ => none) 0 (some s0)) 1 (some s1)) 2 (some s2)) 3 (some s3))))))), (s1, .inr (5, [.ref y1, .int 0, .int 0, .int 0])), (y1, .inl (sk1, 60, .inr (.inl sf1)))] s.heap.size = A at hD ⊢
  have hA : ∀ q : Nat, s.heap.size ≤ q → A q := fun q h => by rw [← hAe]; exact Or.inr h
  have hS : va_S A s.heap s.heap [] := va_S.rf
  have hP : va_P (dC, dI) vwCl [(h0, .inr (8, [.ref x_tape, .ref x_reader, .ref x_current, .ref x_images, .ref x_kept, .ref x_slots, .ref x_diary, .ref x_base, .ref x_trial, .ref x_plan, .ref x_orders, .ref x_unanswered, .int 0, .int 0, .int (-1)])), (x_slots, .inl (zk, 4, .inr (.inr (.inr (.inr (va_up (va_up (va_up (va_up (fun _ => none) 0 (some s0)) 1 (some s1)) 2 (some s2)) 3 (some s3))))))), (s1, .inr (5, [.ref y1, .int 0, .int 0, .int 0])), (y1, .inl (sk1, 60, .inr (.inl sf1)))] s.heap := hP
  have hl := lv_entry ([.ref h0, .int 1, .int a, .int b]) (n := 4) (Nat.le_of_ble_eq_true rfl)
  rw [lg_entry_eq]
  generalize (lg_sl ([.ref h0, .int 1, .int a, .int b]) ++ List.replicate (4 - (lg_sl ([.ref h0, .int 1, .int a, .int b])).length) Slot.unset).toArray = ls at hl ⊢
  have hl : lv_has ls 4 [(0, .ref h0), (1, .int 1), (2, .int a), (3, .int b)] := hl
  refine lv_aload_n hx hb dX8_row_0 rfl (lv_at hl 0 rfl) ?_
  refine lv_iload_n hx hb dX8_row_1 rfl (lv_at hl 1 rfl) ?_
  have hPc := hP.sub (ws' := [(h0, .inr (8, [.ref x_tape, .ref x_reader, .ref x_current, .ref x_images, .ref x_kept, .ref x_slots, .ref x_diary, .ref x_base, .ref x_trial, .ref x_plan, .ref x_orders, .ref x_unanswered, .int 0, .int 0, .int (-1)]))]) [0] rfl
  have hDc := hD.sub (ws' := [(h0, .inr (8, [.ref x_tape, .ref x_reader, .ref x_current, .ref x_images, .ref x_kept, .ref x_slots, .ref x_diary, .ref x_base, .ref x_trial, .ref x_plan, .ref x_orders, .ref x_unanswered, .int 0, .int 0, .int (-1)]))]) [0] (by decide) rfl
  have hKc := hK.sub (tys' := []) [] rfl
  have hFc := va_free (wc := [(h0, .inr (8, [.ref x_tape, .ref x_reader, .ref x_current, .ref x_images, .ref x_kept, .ref x_slots, .ref x_diary, .ref x_base, .ref x_trial, .ref x_plan, .ref x_orders, .ref x_unanswered, .int 0, .int 0, .int (-1)]))]) hD hS hA [0] rfl
  refine va_calli (va_runV (As := [.int 1]) (rest := []) ⟨hx, hb, hml, hown, hts⟩ (c_isSlot1 l dC dI s.heap.size h0 x_tape x_reader x_current x_images x_kept x_slots x_diary x_base x_trial x_plan x_orders x_unanswered ) (cwV 1 hts (goodV w_1288 w_1289 w_1290 w_2 w_1291) rfl rfl rfl hdV_X8_isSlot ⟨Nat.le_of_ble_eq_true rfl, Nat.le_of_ble_eq_true rfl⟩) ⟨fun a U g mk q => by obtain ⟨q0, q1, qP, qK, qD⟩ := q; exact ⟨q0, q1, qP, va_K.moved (u := U) (U := U.calling g mk a) (Vm.Alike.refl U.vm) qK, qD⟩, va_recv hKc hPc (ci := 8) (q0 := 0) rfl rfl, fun U hU hW => ⟨rfl, by rw [hU], by rw [hU]; exact hPc, va_K.moved hW.alike hKc, hDc.weaken (fun _ _ _ _ => trivial)⟩⟩ rfl rfl hl.1 rfl (lv_room (Nat.le_of_ble_eq_true rfl)) dX8_row_2 ⟨Nat.le_of_ble_eq_true rfl, Nat.le_of_ble_eq_true rfl⟩) hS (fun q _ h => hFc q h) hFc (fun r_1 u t H1 locs ht hvm hw hB hz1 hk1 hS => ?_)
  obtain ⟨hP1, hK1, hD1⟩ := hB
  rw [ht] at hP1
  have hK1 := va_K.moved hvm.symm hK1
  obtain ⟨hP, hD⟩ := va_join (wr := [(x_slots, .inl (zk, 4, .inr (.inr (.inr (.inr (va_up (va_up (va_up (va_up (fun _ => none) 0 (some s0)) 1 (some s1)) 2 (some s2)) 3 (some s3))))))), (s1, .inr (5, [.ref y1, .int 0, .int 0, .int 0])), (y1, .inl (sk1, 60, .inr (.inl sf1)))]) (w1 := [(h0, .inr (8, [.ref x_tape, .ref x_reader, .ref x_current, .ref x_images, .ref x_kept, .ref x_slots, .ref x_diary, .ref x_base, .ref x_trial, .ref x_plan, .ref x_orders, .ref x_unanswered, .int 0, .int 0, .int (-1)]))]) hP hD [0] [1, 2, 3] rfl rfl (by decide) (by decide) hk1 hFc hP1 hD1
  clear hPc hDc hKc hFc
  generalize H1 = H at hP hS ⊢
  have hP : va_P (dC, dI) vwCl [(x_slots, .inl (zk, 4, .inr (.inr (.inr (.inr (va_up (va_up (va_up (va_up (fun _ => none) 0 (some s0)) 1 (some s1)) 2 (some s2)) 3 (some s3))))))), (s1, .inr (5, [.ref y1, .int 0, .int 0, .int 0])), (y1, .inl (sk1, 60, .inr (.inl sf1))), (h0, .inr (8, [.ref x_tape, .ref x_reader, .ref x_current, .ref x_images, .ref x_kept, .ref x_slots, .ref x_diary, .ref x_base, .ref x_trial, .ref x_plan, .ref x_orders, .ref x_unanswered, .int 0, .int 0, .int (-1)]))] H := hP
  have hD : va_D A [(x_slots, .inl (zk, 4, .inr (.inr (.inr (.inr (va_up (va_up (va_up (va_up (fun _ => none) 0 (some s0)) 1 (some s1)) 2 (some s2)) 3 (some s3))))))), (s1, .inr (5, [.ref y1, .int 0, .int 0, .int 0])), (y1, .inl (sk1, 60, .inr (.inl sf1))), (h0, .inr (8, [.ref x_tape, .ref x_reader, .ref x_current, .ref x_images, .ref x_kept, .ref x_slots, .ref x_diary, .ref x_base, .ref x_trial, .ref x_plan, .ref x_orders, .ref x_unanswered, .int 0, .int 0, .int (-1)]))] := hD
  have hw : r_1 = 1 := hw
  subst hw
  refine lv_if_eq (tgt := 23) hx hb dX8_row_5 (by decide) (fun c_2 => absurd c_2 (by decide)) (fun c_2 => ?_)
  refine lv_iload_n hx hb dX8_row_8 rfl (lv_at hl 2 rfl) ?_
  refine lv_if_lt (tgt := 23) hx hb dX8_row_9 (by decide) (fun c_3 => absurd (q_lt (a := a.toInt) (b := 0) rfl (by decide) c_3) (by omega)) (fun c_3 => ?_)
  have ec_3 := q_nlt (a := a.toInt) (b := 0) rfl (by decide) c_3
  refine lv_iload_n hx hb dX8_row_12 rfl (lv_at hl 2 rfl) ?_
  refine lv_iconst (v := 3) hx hb dX8_row_13 (by decide) ?_
  refine lv_icmp_gt (tgt := 23) hx hb dX8_row_14 (by decide) (fun c_4 => absurd (q_gt (a := a.toInt) (b := 3) rfl (by decide) c_4) (by omega)) (fun c_4 => ?_)
  have ec_4 := q_ngt (a := a.toInt) (b := 3) rfl (by decide) c_4
  refine lv_iload_n hx hb dX8_row_17 rfl (lv_at hl 3 rfl) ?_
  refine lv_bipush (v := 60) hx hb dX8_row_18 (by decide) ?_
  refine lv_icmp_le (tgt := 26) hx hb dX8_row_20 (by decide) (fun c_5 => ?_) (fun c_5 => absurd (q_nle (a := b.toInt) (b := 60) rfl (by decide) c_5) (by omega))
  have ec_5 := q_le (a := b.toInt) (b := 60) rfl (by decide) c_5
  refine lv_iload_n hx hb dX8_row_26 rfl (lv_at hl 3 rfl) ?_
  refine lv_if_ge (tgt := 33) hx hb dX8_row_27 (by decide) (fun c_6 => ?_) (fun c_6 => absurd (q_nge (a := b.toInt) (b := 0) rfl (by decide) c_6) (by omega))
  have ec_6 := q_ge (a := b.toInt) (b := 0) rfl (by decide) c_6
  refine lv_aload_n hx hb dX8_row_33 rfl (lv_at hl 0 rfl) ?_
  refine va_get (D := (dC, dI)) (ci := 8) (v := .ref x_slots) (C := RX8) (T := TX8) (N := 15) hx hb hts inA8 hown hK hP 3 rfl rfl 5 (by decide) (hts _ w_29) (fun _ h9 => h9) rfl dX8_row_34 ?_
  refine lv_iload_n hx hb dX8_row_37 rfl (lv_at hl 1 rfl) ?_
  refine va_aldq hx hb hK hP 0 0 rfl rfl (show vp_in 1 4 from (by unfold vp_in; decide)) dX8_row_38 ?_
  refine W.eq (g2 := F0 m 39 ls [.ref s1]) rfl ?_
  refine lv_iload_n hx hb dX8_row_39 rfl (lv_at hl 2 rfl) ?_
  refine lv_iload_n hx hb dX8_row_40 rfl (lv_at hl 3 rfl) ?_
  have hPc := hP.sub (ws' := [(s1, .inr (5, [.ref y1, .int 0, .int 0, .int 0])), (y1, .inl (sk1, 60, .inr (.inl sf1)))]) [1, 2] rfl
  have hDc := hD.sub (ws' := [(s1, .inr (5, [.ref y1, .int 0, .int 0, .int 0])), (y1, .inl (sk1, 60, .inr (.inl sf1)))]) [1, 2] (by decide) rfl
  have hKc := hK.sub (tys' := [(sk1, .long)]) [1] rfl
  have hFc := va_free (wc := [(s1, .inr (5, [.ref y1, .int 0, .int 0, .int 0])), (y1, .inl (sk1, 60, .inr (.inl sf1)))]) hD hS hA [1, 2] rfl
  refine va_callv (va_runV (As := [.int a, .int b]) (rest := []) ⟨hx, hb, hml, hown, hts⟩ (c_begin l dC dI H.size s1 y1 sk1 sf1 a b ) (cwV 2 hts (goodV w_1332 w_1333 w_1334 w_53 w_1335) rfl rfl rfl hdV_X5_begin ⟨Nat.le_of_ble_eq_true rfl, Nat.le_of_ble_eq_true rfl⟩) ⟨fun a U g mk q => by obtain ⟨q0, q1, qP, qK, qD⟩ := q; exact ⟨q0, q1, qP, va_K.moved (u := U) (U := U.calling g mk a) (Vm.Alike.refl U.vm) qK, qD⟩, va_recv hKc hPc (ci := 5) (q0 := 0) rfl rfl, fun U hU hW => ⟨rfl, by rw [hU], by rw [hU]; exact hPc, va_K.moved hW.alike hKc, hDc.weaken (fun _ _ _ _ => trivial)⟩⟩ rfl rfl hl.1 rfl (lv_room (Nat.le_of_ble_eq_true rfl)) dX8_row_41 ⟨Nat.le_of_ble_eq_true rfl, Nat.le_of_ble_eq_true rfl⟩) hS (fun q _ h => hFc q h) hFc (fun  u t H1 locs ht hvm hw hB hz1 hk1 hS => ?_)
  obtain ⟨hP, hD⟩ := va_join (wr := [(x_slots, .inl (zk, 4, .inr (.inr (.inr (.inr (va_up (va_up (va_up (va_up (fun _ => none) 0 (some s0)) 1 (some s1)) 2 (some s2)) 3 (some s3))))))), (h0, .inr (8, [.ref x_tape, .ref x_reader, .ref x_current, .ref x_images, .ref x_kept, .ref x_slots, .ref x_diary, .ref x_base, .ref x_trial, .ref x_plan, .ref x_orders, .ref x_unanswered, .int 0, .int 0, .int (-1)]))]) (w1 := []) hP hD [1, 2] [0, 3] rfl rfl (by decide) (by decide) hk1 hFc nilP nilD
  clear hPc hDc hKc hFc
  generalize H1 = H at hP hS ⊢
  have hP : va_P (dC, dI) vwCl [(x_slots, .inl (zk, 4, .inr (.inr (.inr (.inr (va_up (va_up (va_up (va_up (fun _ => none) 0 (some s0)) 1 (some s1)) 2 (some s2)) 3 (some s3))))))), (h0, .inr (8, [.ref x_tape, .ref x_reader, .ref x_current, .ref x_images, .ref x_kept, .ref x_slots, .ref x_diary, .ref x_base, .ref x_trial, .ref x_plan, .ref x_orders, .ref x_unanswered, .int 0, .int 0, .int (-1)]))] H := hP
  have hD : va_D A [(x_slots, .inl (zk, 4, .inr (.inr (.inr (.inr (va_up (va_up (va_up (va_up (fun _ => none) 0 (some s0)) 1 (some s1)) 2 (some s2)) 3 (some s3))))))), (h0, .inr (8, [.ref x_tape, .ref x_reader, .ref x_current, .ref x_images, .ref x_kept, .ref x_slots, .ref x_diary, .ref x_base, .ref x_trial, .ref x_plan, .ref x_orders, .ref x_unanswered, .int 0, .int 0, .int (-1)]))] := hD
  refine lv_iconst (v := 0) hx hb dX8_row_44 (by decide) ?_
  exact W.iret (v := 0) hx hb hr (fun t ht hW => ⟨⟨0, (), rfl, rfl, trivial⟩, hS.F ht⟩) hS.2.2 dX8_row_45
set_option maxHeartbeats 4000000 in
set_option maxRecDepth 100000 in
theorem x_rowB1 (l : Launch) (dC : Nat → ClassId) (dI : Nat → Nat → Nat) (sz : Nat) (h0 : Nat) (x_tape : Nat) (x_reader : Nat) (x_current : Nat) (x_images : Nat) (x_kept : Nat) (x_slots : Nat) (x_diary : Nat) (x_base : Nat) (x_trial : Nat) (x_plan : Nat) (x_orders : Nat) (x_unanswered : Nat) (a : Int32) (b : Int32) (h1 : 0 ≤ a.toInt) (h2 : a.toInt ≤ 3) (h3 : b.toInt < 0) : Met l yX8_row (.code yX8_row cX8_row 4 (some .int) :: ALLW) ({ frames := 1, cells := 0, slots := 0, locals := 21 }) (va_Pc [.ref h0, .int 1, .int a, .int b] (fun U => U.heap.size = sz ∧ va_P (dC, dI) vwCl [(h0, .inr (8, [.ref x_tape, .ref x_reader, .ref x_current, .ref x_images, .ref x_kept, .ref x_slots, .ref x_diary, .ref x_base, .ref x_trial, .ref x_plan, .ref x_orders, .ref x_unanswered, .int 0, .int 0, .int (-1)]))] U.heap ∧ va_K (dC, dI) vwCl [] U ∧ va_D (fun _ => True) [(h0, .inr (8, [.ref x_tape, .ref x_reader, .ref x_current, .ref x_images, .ref x_kept, .ref x_slots, .ref x_diary, .ref x_base, .ref x_trial, .ref x_plan, .ref x_orders, .ref x_unanswered, .int 0, .int 0, .int (-1)]))])) (va_Qi (fun (r : Int32) (_ : Unit) => r = (-3)) (fun (_ : Unit) (_ : State) => True) (va_A [(h0, .inr (8, [.ref x_tape, .ref x_reader, .ref x_current, .ref x_images, .ref x_kept, .ref x_slots, .ref x_diary, .ref x_base, .ref x_trial, .ref x_plan, .ref x_orders, .ref x_unanswered, .int 0, .int 0, .int (-1)]))] sz)) 0 0 (va_A [(h0, .inr (8, [.ref x_tape, .ref x_reader, .ref x_current, .ref x_images, .ref x_kept, .ref x_slots, .ref x_diary, .ref x_base, .ref x_trial, .ref x_plan, .ref x_orders, .ref x_unanswered, .int 0, .int 0, .int (-1)]))] sz) := by
  refine Met.ofW (cc := cX8_row) (maxL := 4) (ret := (some .int)) (by decide) rfl ?_
  intro p e s m args below meth c s₁ B hml hv
  obtain ⟨rfl, hsz, hP, hK, hD0⟩ := hv
  have hx := B.exec
  have hb := B.bytes
  have hr := B.returns
  have hts0 := atoms_spec (ws := (.code yX8_row cX8_row 4 (some .int) :: ALLW)) B.pre
  have hts := fun (w : Cond) (h : w ∈ ALLW) => hts0 w (List.mem_cons_of_mem _ h)
  have hown : s.vm.findClass RX8 = some m.cls := findClass_of_methodNamed B.named
  have hlocks := B.notSynchronized
  subst hsz
  have hD := hD0.self (sz := s.heap.size)
  generalize hAe : va_A [(h0, .inr (8, [.ref x_tape, .ref x_reader, .ref x_current, .ref x_images, .ref x_kept, .ref x_slots, .ref x_diary, .ref x_base, .ref x_trial, .ref x_plan, .ref x_orders, .ref x_unanswered, .int 0, .int 0, .int (-1)]))] s.heap.size = A at hD ⊢
  have hA : ∀ q : Nat, s.heap.size ≤ q → A q := fun q h => by rw [← hAe]; exact Or.inr h
  have hS : va_S A s.heap s.heap [] := va_S.rf
  have hP : va_P (dC, dI) vwCl [(h0, .inr (8, [.ref x_tape, .ref x_reader, .ref x_current, .ref x_images, .ref x_kept, .ref x_slots, .ref x_diary, .ref x_base, .ref x_trial, .ref x_plan, .ref x_orders, .ref x_unanswered, .int 0, .int 0, .int (-1)]))] s.heap := hP
  have hl := lv_entry ([.ref h0, .int 1, .int a, .int b]) (n := 4) (Nat.le_of_ble_eq_true rfl)
  rw [lg_entry_eq]
  generalize (lg_sl ([.ref h0, .int 1, .int a, .int b]) ++ List.replicate (4 - (lg_sl ([.ref h0, .int 1, .int a, .int b])).length) Slot.unset).toArray = ls at hl ⊢
  have hl : lv_has ls 4 [(0, .ref h0), (1, .int 1), (2, .int a), (3, .int b)] := hl
  refine lv_aload_n hx hb dX8_row_0 rfl (lv_at hl 0 rfl) ?_
  refine lv_iload_n hx hb dX8_row_1 rfl (lv_at hl 1 rfl) ?_
  have hPc := hP.sub (ws' := [(h0, .inr (8, [.ref x_tape, .ref x_reader, .ref x_current, .ref x_images, .ref x_kept, .ref x_slots, .ref x_diary, .ref x_base, .ref x_trial, .ref x_plan, .ref x_orders, .ref x_unanswered, .int 0, .int 0, .int (-1)]))]) [0] rfl
  have hDc := hD.sub (ws' := [(h0, .inr (8, [.ref x_tape, .ref x_reader, .ref x_current, .ref x_images, .ref x_kept, .ref x_slots, .ref x_diary, .ref x_base, .ref x_trial, .ref x_plan, .ref x_orders, .ref x_unanswered, .int 0, .int 0, .int (-1)]))]) [0] (by decide) rfl
  have hKc := hK.sub (tys' := []) [] rfl
  have hFc := va_free (wc := [(h0, .inr (8, [.ref x_tape, .ref x_reader, .ref x_current, .ref x_images, .ref x_kept, .ref x_slots, .ref x_diary, .ref x_base, .ref x_trial, .ref x_plan, .ref x_orders, .ref x_unanswered, .int 0, .int 0, .int (-1)]))]) hD hS hA [0] rfl
  refine va_calli (va_runV (As := [.int 1]) (rest := []) ⟨hx, hb, hml, hown, hts⟩ (c_isSlot1 l dC dI s.heap.size h0 x_tape x_reader x_current x_images x_kept x_slots x_diary x_base x_trial x_plan x_orders x_unanswered ) (cwV 1 hts (goodV w_1288 w_1289 w_1290 w_2 w_1291) rfl rfl rfl hdV_X8_isSlot ⟨Nat.le_of_ble_eq_true rfl, Nat.le_of_ble_eq_true rfl⟩) ⟨fun a U g mk q => by obtain ⟨q0, q1, qP, qK, qD⟩ := q; exact ⟨q0, q1, qP, va_K.moved (u := U) (U := U.calling g mk a) (Vm.Alike.refl U.vm) qK, qD⟩, va_recv hKc hPc (ci := 8) (q0 := 0) rfl rfl, fun U hU hW => ⟨rfl, by rw [hU], by rw [hU]; exact hPc, va_K.moved hW.alike hKc, hDc.weaken (fun _ _ _ _ => trivial)⟩⟩ rfl rfl hl.1 rfl (lv_room (Nat.le_of_ble_eq_true rfl)) dX8_row_2 ⟨Nat.le_of_ble_eq_true rfl, Nat.le_of_ble_eq_true rfl⟩) hS (fun q _ h => hFc q h) hFc (fun r_1 u t H1 locs ht hvm hw hB hz1 hk1 hS => ?_)
  obtain ⟨hP1, hK1, hD1⟩ := hB
  rw [ht] at hP1
  have hK1 := va_K.moved hvm.symm hK1
  obtain ⟨hP, hD⟩ := va_join (wr := []) (w1 := [(h0, .inr (8, [.ref x_tape, .ref x_reader, .ref x_current, .ref x_images, .ref x_kept, .ref x_slots, .ref x_diary, .ref x_base, .ref x_trial, .ref x_plan, .ref x_orders, .ref x_unanswered, .int 0, .int 0, .int (-1)]))]) hP hD [0] [] rfl rfl (by decide) (by decide) hk1 hFc hP1 hD1
  clear hPc hDc hKc hFc
  generalize H1 = H at hP hS ⊢
  have hP : va_P (dC, dI) vwCl [(h0, .inr (8, [.ref x_tape, .ref x_reader, .ref x_current, .ref x_images, .ref x_kept, .ref x_slots, .ref x_diary, .ref x_base, .ref x_trial, .ref x_plan, .ref x_orders, .ref x_unanswered, .int 0, .int 0, .int (-1)]))] H := hP
  have hD : va_D A [(h0, .inr (8, [.ref x_tape, .ref x_reader, .ref x_current, .ref x_images, .ref x_kept, .ref x_slots, .ref x_diary, .ref x_base, .ref x_trial, .ref x_plan, .ref x_orders, .ref x_unanswered, .int 0, .int 0, .int (-1)]))] := hD
  have hw : r_1 = 1 := hw
  subst hw
  refine lv_if_eq (tgt := 23) hx hb dX8_row_5 (by decide) (fun c_2 => absurd c_2 (by decide)) (fun c_2 => ?_)
  refine lv_iload_n hx hb dX8_row_8 rfl (lv_at hl 2 rfl) ?_
  refine lv_if_lt (tgt := 23) hx hb dX8_row_9 (by decide) (fun c_3 => absurd (q_lt (a := a.toInt) (b := 0) rfl (by decide) c_3) (by omega)) (fun c_3 => ?_)
  have ec_3 := q_nlt (a := a.toInt) (b := 0) rfl (by decide) c_3
  refine lv_iload_n hx hb dX8_row_12 rfl (lv_at hl 2 rfl) ?_
  refine lv_iconst (v := 3) hx hb dX8_row_13 (by decide) ?_
  refine lv_icmp_gt (tgt := 23) hx hb dX8_row_14 (by decide) (fun c_4 => absurd (q_gt (a := a.toInt) (b := 3) rfl (by decide) c_4) (by omega)) (fun c_4 => ?_)
  have ec_4 := q_ngt (a := a.toInt) (b := 3) rfl (by decide) c_4
  refine lv_iload_n hx hb dX8_row_17 rfl (lv_at hl 3 rfl) ?_
  refine lv_bipush (v := 60) hx hb dX8_row_18 (by decide) ?_
  refine lv_icmp_le (tgt := 26) hx hb dX8_row_20 (by decide) (fun c_5 => ?_) (fun c_5 => absurd (q_nle (a := b.toInt) (b := 60) rfl (by decide) c_5) (by omega))
  have ec_5 := q_le (a := b.toInt) (b := 60) rfl (by decide) c_5
  refine lv_iload_n hx hb dX8_row_26 rfl (lv_at hl 3 rfl) ?_
  refine lv_if_ge (tgt := 33) hx hb dX8_row_27 (by decide) (fun c_6 => absurd (q_ge (a := b.toInt) (b := 0) rfl (by decide) c_6) (by omega)) (fun c_6 => ?_)
  have ec_6 := q_nge (a := b.toInt) (b := 0) rfl (by decide) c_6
  refine lv_bipush (v := (-3)) hx hb dX8_row_30 (by decide) ?_
  exact W.iret (v := (-3)) hx hb hr (fun t ht hW => ⟨⟨(-3), (), rfl, rfl, trivial⟩, hS.F ht⟩) hS.2.2 dX8_row_32
set_option maxHeartbeats 4000000 in
set_option maxRecDepth 100000 in
theorem x_rowN1 (l : Launch) (dC : Nat → ClassId) (dI : Nat → Nat → Nat) (sz : Nat) (h0 : Nat) (x_tape : Nat) (x_reader : Nat) (x_current : Nat) (x_images : Nat) (x_kept : Nat) (x_slots : Nat) (x_diary : Nat) (x_base : Nat) (x_trial : Nat) (x_plan : Nat) (x_orders : Nat) (x_unanswered : Nat) (a : Int32) (b : Int32) (h1 : a.toInt < 0 ∨ 3 < a.toInt ∨ 60 < b.toInt) : Met l yX8_row (.code yX8_row cX8_row 4 (some .int) :: ALLW) ({ frames := 1, cells := 0, slots := 0, locals := 21 }) (va_Pc [.ref h0, .int 1, .int a, .int b] (fun U => U.heap.size = sz ∧ va_P (dC, dI) vwCl [(h0, .inr (8, [.ref x_tape, .ref x_reader, .ref x_current, .ref x_images, .ref x_kept, .ref x_slots, .ref x_diary, .ref x_base, .ref x_trial, .ref x_plan, .ref x_orders, .ref x_unanswered, .int 0, .int 0, .int (-1)]))] U.heap ∧ va_K (dC, dI) vwCl [] U ∧ va_D (fun _ => True) [(h0, .inr (8, [.ref x_tape, .ref x_reader, .ref x_current, .ref x_images, .ref x_kept, .ref x_slots, .ref x_diary, .ref x_base, .ref x_trial, .ref x_plan, .ref x_orders, .ref x_unanswered, .int 0, .int 0, .int (-1)]))])) (va_Qi (fun (r : Int32) (_ : Unit) => r = (-2)) (fun (_ : Unit) (_ : State) => True) (va_A [(h0, .inr (8, [.ref x_tape, .ref x_reader, .ref x_current, .ref x_images, .ref x_kept, .ref x_slots, .ref x_diary, .ref x_base, .ref x_trial, .ref x_plan, .ref x_orders, .ref x_unanswered, .int 0, .int 0, .int (-1)]))] sz)) 0 0 (va_A [(h0, .inr (8, [.ref x_tape, .ref x_reader, .ref x_current, .ref x_images, .ref x_kept, .ref x_slots, .ref x_diary, .ref x_base, .ref x_trial, .ref x_plan, .ref x_orders, .ref x_unanswered, .int 0, .int 0, .int (-1)]))] sz) := by
  refine Met.ofW (cc := cX8_row) (maxL := 4) (ret := (some .int)) (by decide) rfl ?_
  intro p e s m args below meth c s₁ B hml hv
  obtain ⟨rfl, hsz, hP, hK, hD0⟩ := hv
  have hx := B.exec
  have hb := B.bytes
  have hr := B.returns
  have hts0 := atoms_spec (ws := (.code yX8_row cX8_row 4 (some .int) :: ALLW)) B.pre
  have hts := fun (w : Cond) (h : w ∈ ALLW) => hts0 w (List.mem_cons_of_mem _ h)
  have hown : s.vm.findClass RX8 = some m.cls := findClass_of_methodNamed B.named
  have hlocks := B.notSynchronized
  subst hsz
  have hD := hD0.self (sz := s.heap.size)
  generalize hAe : va_A [(h0, .inr (8, [.ref x_tape, .ref x_reader, .ref x_current, .ref x_images, .ref x_kept, .ref x_slots, .ref x_diary, .ref x_base, .ref x_trial, .ref x_plan, .ref x_orders, .ref x_unanswered, .int 0, .int 0, .int (-1)]))] s.heap.size = A at hD ⊢
  have hA : ∀ q : Nat, s.heap.size ≤ q → A q := fun q h => by rw [← hAe]; exact Or.inr h
  have hS : va_S A s.heap s.heap [] := va_S.rf
  have hP : va_P (dC, dI) vwCl [(h0, .inr (8, [.ref x_tape, .ref x_reader, .ref x_current, .ref x_images, .ref x_kept, .ref x_slots, .ref x_diary, .ref x_base, .ref x_trial, .ref x_plan, .ref x_orders, .ref x_unanswered, .int 0, .int 0, .int (-1)]))] s.heap := hP
  have hl := lv_entry ([.ref h0, .int 1, .int a, .int b]) (n := 4) (Nat.le_of_ble_eq_true rfl)
  rw [lg_entry_eq]
  generalize (lg_sl ([.ref h0, .int 1, .int a, .int b]) ++ List.replicate (4 - (lg_sl ([.ref h0, .int 1, .int a, .int b])).length) Slot.unset).toArray = ls at hl ⊢
  have hl : lv_has ls 4 [(0, .ref h0), (1, .int 1), (2, .int a), (3, .int b)] := hl
  refine lv_aload_n hx hb dX8_row_0 rfl (lv_at hl 0 rfl) ?_
  refine lv_iload_n hx hb dX8_row_1 rfl (lv_at hl 1 rfl) ?_
  have hPc := hP.sub (ws' := [(h0, .inr (8, [.ref x_tape, .ref x_reader, .ref x_current, .ref x_images, .ref x_kept, .ref x_slots, .ref x_diary, .ref x_base, .ref x_trial, .ref x_plan, .ref x_orders, .ref x_unanswered, .int 0, .int 0, .int (-1)]))]) [0] rfl
  have hDc := hD.sub (ws' := [(h0, .inr (8, [.ref x_tape, .ref x_reader, .ref x_current, .ref x_images, .ref x_kept, .ref x_slots, .ref x_diary, .ref x_base, .ref x_trial, .ref x_plan, .ref x_orders, .ref x_unanswered, .int 0, .int 0, .int (-1)]))]) [0] (by decide) rfl
  have hKc := hK.sub (tys' := []) [] rfl
  have hFc := va_free (wc := [(h0, .inr (8, [.ref x_tape, .ref x_reader, .ref x_current, .ref x_images, .ref x_kept, .ref x_slots, .ref x_diary, .ref x_base, .ref x_trial, .ref x_plan, .ref x_orders, .ref x_unanswered, .int 0, .int 0, .int (-1)]))]) hD hS hA [0] rfl
  refine va_calli (va_runV (As := [.int 1]) (rest := []) ⟨hx, hb, hml, hown, hts⟩ (c_isSlot1 l dC dI s.heap.size h0 x_tape x_reader x_current x_images x_kept x_slots x_diary x_base x_trial x_plan x_orders x_unanswered ) (cwV 1 hts (goodV w_1288 w_1289 w_1290 w_2 w_1291) rfl rfl rfl hdV_X8_isSlot ⟨Nat.le_of_ble_eq_true rfl, Nat.le_of_ble_eq_true rfl⟩) ⟨fun a U g mk q => by obtain ⟨q0, q1, qP, qK, qD⟩ := q; exact ⟨q0, q1, qP, va_K.moved (u := U) (U := U.calling g mk a) (Vm.Alike.refl U.vm) qK, qD⟩, va_recv hKc hPc (ci := 8) (q0 := 0) rfl rfl, fun U hU hW => ⟨rfl, by rw [hU], by rw [hU]; exact hPc, va_K.moved hW.alike hKc, hDc.weaken (fun _ _ _ _ => trivial)⟩⟩ rfl rfl hl.1 rfl (lv_room (Nat.le_of_ble_eq_true rfl)) dX8_row_2 ⟨Nat.le_of_ble_eq_true rfl, Nat.le_of_ble_eq_true rfl⟩) hS (fun q _ h => hFc q h) hFc (fun r_1 u t H1 locs ht hvm hw hB hz1 hk1 hS => ?_)
  obtain ⟨hP1, hK1, hD1⟩ := hB
  rw [ht] at hP1
  have hK1 := va_K.moved hvm.symm hK1
  obtain ⟨hP, hD⟩ := va_join (wr := []) (w1 := [(h0, .inr (8, [.ref x_tape, .ref x_reader, .ref x_current, .ref x_images, .ref x_kept, .ref x_slots, .ref x_diary, .ref x_base, .ref x_trial, .ref x_plan, .ref x_orders, .ref x_unanswered, .int 0, .int 0, .int (-1)]))]) hP hD [0] [] rfl rfl (by decide) (by decide) hk1 hFc hP1 hD1
  clear hPc hDc hKc hFc
  generalize H1 = H at hP hS ⊢
  have hP : va_P (dC, dI) vwCl [(h0, .inr (8, [.ref x_tape, .ref x_reader, .ref x_current, .ref x_images, .ref x_kept, .ref x_slots, .ref x_diary, .ref x_base, .ref x_trial, .ref x_plan, .ref x_orders, .ref x_unanswered, .int 0, .int 0, .int (-1)]))] H := hP
  have hD : va_D A [(h0, .inr (8, [.ref x_tape, .ref x_reader, .ref x_current, .ref x_images, .ref x_kept, .ref x_slots, .ref x_diary, .ref x_base, .ref x_trial, .ref x_plan, .ref x_orders, .ref x_unanswered, .int 0, .int 0, .int (-1)]))] := hD
  have hw : r_1 = 1 := hw
  subst hw
  refine lv_if_eq (tgt := 23) hx hb dX8_row_5 (by decide) (fun c_2 => absurd c_2 (by decide)) (fun c_2 => ?_)
  refine lv_iload_n hx hb dX8_row_8 rfl (lv_at hl 2 rfl) ?_
  refine lv_if_lt (tgt := 23) hx hb dX8_row_9 (by decide) (fun c_3 => ?_) (fun c_3 => ?_)
  · have ec_3 := q_lt (a := a.toInt) (b := 0) rfl (by decide) c_3
    refine lv_bipush (v := (-2)) hx hb dX8_row_23 (by decide) ?_
    exact W.iret (v := (-2)) hx hb hr (fun t ht hW => ⟨⟨(-2), (), rfl, rfl, trivial⟩, hS.F ht⟩) hS.2.2 dX8_row_25
  · have ec_3 := q_nlt (a := a.toInt) (b := 0) rfl (by decide) c_3
    refine lv_iload_n hx hb dX8_row_12 rfl (lv_at hl 2 rfl) ?_
    refine lv_iconst (v := 3) hx hb dX8_row_13 (by decide) ?_
    refine lv_icmp_gt (tgt := 23) hx hb dX8_row_14 (by decide) (fun c_4 => ?_) (fun c_4 => ?_)
    · have ec_4 := q_gt (a := a.toInt) (b := 3) rfl (by decide) c_4
      refine lv_bipush (v := (-2)) hx hb dX8_row_23 (by decide) ?_
      exact W.iret (v := (-2)) hx hb hr (fun t ht hW => ⟨⟨(-2), (), rfl, rfl, trivial⟩, hS.F ht⟩) hS.2.2 dX8_row_25
    · have ec_4 := q_ngt (a := a.toInt) (b := 3) rfl (by decide) c_4
      refine lv_iload_n hx hb dX8_row_17 rfl (lv_at hl 3 rfl) ?_
      refine lv_bipush (v := 60) hx hb dX8_row_18 (by decide) ?_
      refine lv_icmp_le (tgt := 26) hx hb dX8_row_20 (by decide) (fun c_5 => absurd (q_le (a := b.toInt) (b := 60) rfl (by decide) c_5) (by omega)) (fun c_5 => ?_)
      have ec_5 := q_nle (a := b.toInt) (b := 60) rfl (by decide) c_5
      refine lv_bipush (v := (-2)) hx hb dX8_row_23 (by decide) ?_
      exact W.iret (v := (-2)) hx hb hr (fun t ht hW => ⟨⟨(-2), (), rfl, rfl, trivial⟩, hS.F ht⟩) hS.2.2 dX8_row_25
set_option maxHeartbeats 4000000 in
set_option maxRecDepth 100000 in
theorem x_write1 (l : Launch) (dC : Nat → ClassId) (dI : Nat → Nat → Nat) (sz : Nat) (h0 : Nat) (x_tape : Nat) (x_reader : Nat) (x_current : Nat) (x_images : Nat) (x_kept : Nat) (x_slots : Nat) (x_diary : Nat) (x_base : Nat) (x_trial : Nat) (x_plan : Nat) (x_orders : Nat) (x_unanswered : Nat) (s0 : Nat) (s1 : Nat) (s2 : Nat) (s3 : Nat) (y0 : Nat) (y1 : Nat) (y2 : Nat) (y3 : Nat) (zk : ClassId) (a : Int32) (b : Int64)  : Met l yX8_write (.code yX8_write cX8_write 6 (some .int) :: ALLW) ({ frames := 1, cells := 0, slots := 0, locals := 21 }) (va_Pc [.ref h0, .int 1, .int a, .long b] (fun U => U.heap.size = sz ∧ va_P (dC, dI) vwCl [(h0, .inr (8, [.ref x_tape, .ref x_reader, .ref x_current, .ref x_images, .ref x_kept, .ref x_slots, .ref x_diary, .ref x_base, .ref x_trial, .ref x_plan, .ref x_orders, .ref x_unanswered, .int 0, .int 0, .int (-1)])), (x_slots, .inl (zk, 4, .inr (.inr (.inr (.inr (va_up (va_up (va_up (va_up (fun _ => none) 0 (some s0)) 1 (some s1)) 2 (some s2)) 3 (some s3))))))), (s1, .inr (5, [.ref y1, .int 0, .int 0, .int 0]))] U.heap ∧ va_K (dC, dI) vwCl [(zk, .object RX5)] U ∧ va_D (fun _ => True) [(h0, .inr (8, [.ref x_tape, .ref x_reader, .ref x_current, .ref x_images, .ref x_kept, .ref x_slots, .ref x_diary, .ref x_base, .ref x_trial, .ref x_plan, .ref x_orders, .ref x_unanswered, .int 0, .int 0, .int (-1)])), (x_slots, .inl (zk, 4, .inr (.inr (.inr (.inr (va_up (va_up (va_up (va_up (fun _ => none) 0 (some s0)) 1 (some s1)) 2 (some s2)) 3 (some s3))))))), (s1, .inr (5, [.ref y1, .int 0, .int 0, .int 0]))])) (va_Qi (fun (r : Int32) (_ : Unit) => r = (-6)) (fun (_ : Unit) (_ : State) => True) (va_A [(h0, .inr (8, [.ref x_tape, .ref x_reader, .ref x_current, .ref x_images, .ref x_kept, .ref x_slots, .ref x_diary, .ref x_base, .ref x_trial, .ref x_plan, .ref x_orders, .ref x_unanswered, .int 0, .int 0, .int (-1)])), (x_slots, .inl (zk, 4, .inr (.inr (.inr (.inr (va_up (va_up (va_up (va_up (fun _ => none) 0 (some s0)) 1 (some s1)) 2 (some s2)) 3 (some s3))))))), (s1, .inr (5, [.ref y1, .int 0, .int 0, .int 0]))] sz)) 0 0 (va_A [(h0, .inr (8, [.ref x_tape, .ref x_reader, .ref x_current, .ref x_images, .ref x_kept, .ref x_slots, .ref x_diary, .ref x_base, .ref x_trial, .ref x_plan, .ref x_orders, .ref x_unanswered, .int 0, .int 0, .int (-1)])), (x_slots, .inl (zk, 4, .inr (.inr (.inr (.inr (va_up (va_up (va_up (va_up (fun _ => none) 0 (some s0)) 1 (some s1)) 2 (some s2)) 3 (some s3))))))), (s1, .inr (5, [.ref y1, .int 0, .int 0, .int 0]))] sz) := by
  refine Met.ofW (cc := cX8_write) (maxL := 6) (ret := (some .int)) (by decide) rfl ?_
  intro p e s m args below meth c s₁ B hml hv
  obtain ⟨rfl, hsz, hP, hK, hD0⟩ := hv
  have hx := B.exec
  have hb := B.bytes
  have hr := B.returns
  have hts0 := atoms_spec (ws := (.code yX8_write cX8_write 6 (some .int) :: ALLW)) B.pre
  have hts := fun (w : Cond) (h : w ∈ ALLW) => hts0 w (List.mem_cons_of_mem _ h)
  have hown : s.vm.findClass RX8 = some m.cls := findClass_of_methodNamed B.named
  have hlocks := B.notSynchronized
  subst hsz
  have hD := hD0.self (sz := s.heap.size)
  generalize hAe : va_A [(h0, .inr (8, [.ref x_tape, .ref x_reader, .ref x_current, .ref x_images, .ref x_kept, .ref x_slots, .ref x_diary, .ref x_base, .ref x_trial, .ref x_plan, .ref x_orders, .ref x_unanswered, .int 0, .int 0, .int (-1)])), (x_slots, .inl (zk, 4, .inr (.inr (.inr (.inr (va_up (va_up (va_up (va_up (fun _ => none) 0 (some s0)) 1 (some s1)) 2 (some s2)) 3 (some s3))))))), (s1, .inr (5, [.ref y1, .int 0, .int 0, .int 0]))] s.heap.size = A at hD ⊢
  have hA : ∀ q : Nat, s.heap.size ≤ q → A q := fun q h => by rw [← hAe]; exact Or.inr h
  have hS : va_S A s.heap s.heap [] := va_S.rf
  have hP : va_P (dC, dI) vwCl [(h0, .inr (8, [.ref x_tape, .ref x_reader, .ref x_current, .ref x_images, .ref x_kept, .ref x_slots, .ref x_diary, .ref x_base, .ref x_trial, .ref x_plan, .ref x_orders, .ref x_unanswered, .int 0, .int 0, .int (-1)])), (x_slots, .inl (zk, 4, .inr (.inr (.inr (.inr (va_up (va_up (va_up (va_up (fun _ => none) 0 (some s0)) 1 (some s1)) 2 (some s2)) 3 (some s3))))))), (s1, .inr (5, [.ref y1, .int 0, .int 0, .int 0]))] s.heap := hP
  have hl := lv_entry ([.ref h0, .int 1, .int a, .long b]) (n := 6) (Nat.le_of_ble_eq_true rfl)
  rw [lg_entry_eq]
  generalize (lg_sl ([.ref h0, .int 1, .int a, .long b]) ++ List.replicate (6 - (lg_sl ([.ref h0, .int 1, .int a, .long b])).length) Slot.unset).toArray = ls at hl ⊢
  have hl : lv_has ls 6 [(0, .ref h0), (1, .int 1), (2, .int a), (3, .long b)] := hl
  refine lv_aload_n hx hb dX8_write_0 rfl (lv_at hl 0 rfl) ?_
  refine lv_iload_n hx hb dX8_write_1 rfl (lv_at hl 1 rfl) ?_
  have hPc := hP.sub (ws' := [(h0, .inr (8, [.ref x_tape, .ref x_reader, .ref x_current, .ref x_images, .ref x_kept, .ref x_slots, .ref x_diary, .ref x_base, .ref x_trial, .ref x_plan, .ref x_orders, .ref x_unanswered, .int 0, .int 0, .int (-1)]))]) [0] rfl
  have hDc := hD.sub (ws' := [(h0, .inr (8, [.ref x_tape, .ref x_reader, .ref x_current, .ref x_images, .ref x_kept, .ref x_slots, .ref x_diary, .ref x_base, .ref x_trial, .ref x_plan, .ref x_orders, .ref x_unanswered, .int 0, .int 0, .int (-1)]))]) [0] (by decide) rfl
  have hKc := hK.sub (tys' := []) [] rfl
  have hFc := va_free (wc := [(h0, .inr (8, [.ref x_tape, .ref x_reader, .ref x_current, .ref x_images, .ref x_kept, .ref x_slots, .ref x_diary, .ref x_base, .ref x_trial, .ref x_plan, .ref x_orders, .ref x_unanswered, .int 0, .int 0, .int (-1)]))]) hD hS hA [0] rfl
  refine va_calli (va_runV (As := [.int 1]) (rest := []) ⟨hx, hb, hml, hown, hts⟩ (c_isSlot1 l dC dI s.heap.size h0 x_tape x_reader x_current x_images x_kept x_slots x_diary x_base x_trial x_plan x_orders x_unanswered ) (cwV 1 hts (goodV w_1288 w_1289 w_1290 w_2 w_1291) rfl rfl rfl hdV_X8_isSlot ⟨Nat.le_of_ble_eq_true rfl, Nat.le_of_ble_eq_true rfl⟩) ⟨fun a U g mk q => by obtain ⟨q0, q1, qP, qK, qD⟩ := q; exact ⟨q0, q1, qP, va_K.moved (u := U) (U := U.calling g mk a) (Vm.Alike.refl U.vm) qK, qD⟩, va_recv hKc hPc (ci := 8) (q0 := 0) rfl rfl, fun U hU hW => ⟨rfl, by rw [hU], by rw [hU]; exact hPc, va_K.moved hW.alike hKc, hDc.weaken (fun _ _ _ _ => trivial)⟩⟩ rfl rfl hl.1 rfl (lv_room (Nat.le_of_ble_eq_true rfl)) dX8_write_2 ⟨Nat.le_of_ble_eq_true rfl, Nat.le_of_ble_eq_true rfl⟩) hS (fun q _ h => hFc q h) hFc (fun r_1 u t H1 locs ht hvm hw hB hz1 hk1 hS => ?_)
  obtain ⟨hP1, hK1, hD1⟩ := hB
  rw [ht] at hP1
  have hK1 := va_K.moved hvm.symm hK1
  obtain ⟨hP, hD⟩ := va_join (wr := [(x_slots, .inl (zk, 4, .inr (.inr (.inr (.inr (va_up (va_up (va_up (va_up (fun _ => none) 0 (some s0)) 1 (some s1)) 2 (some s2)) 3 (some s3))))))), (s1, .inr (5, [.ref y1, .int 0, .int 0, .int 0]))]) (w1 := [(h0, .inr (8, [.ref x_tape, .ref x_reader, .ref x_current, .ref x_images, .ref x_kept, .ref x_slots, .ref x_diary, .ref x_base, .ref x_trial, .ref x_plan, .ref x_orders, .ref x_unanswered, .int 0, .int 0, .int (-1)]))]) hP hD [0] [1, 2] rfl rfl (by decide) (by decide) hk1 hFc hP1 hD1
  clear hPc hDc hKc hFc
  generalize H1 = H at hP hS ⊢
  have hP : va_P (dC, dI) vwCl [(x_slots, .inl (zk, 4, .inr (.inr (.inr (.inr (va_up (va_up (va_up (va_up (fun _ => none) 0 (some s0)) 1 (some s1)) 2 (some s2)) 3 (some s3))))))), (s1, .inr (5, [.ref y1, .int 0, .int 0, .int 0])), (h0, .inr (8, [.ref x_tape, .ref x_reader, .ref x_current, .ref x_images, .ref x_kept, .ref x_slots, .ref x_diary, .ref x_base, .ref x_trial, .ref x_plan, .ref x_orders, .ref x_unanswered, .int 0, .int 0, .int (-1)]))] H := hP
  have hD : va_D A [(x_slots, .inl (zk, 4, .inr (.inr (.inr (.inr (va_up (va_up (va_up (va_up (fun _ => none) 0 (some s0)) 1 (some s1)) 2 (some s2)) 3 (some s3))))))), (s1, .inr (5, [.ref y1, .int 0, .int 0, .int 0])), (h0, .inr (8, [.ref x_tape, .ref x_reader, .ref x_current, .ref x_images, .ref x_kept, .ref x_slots, .ref x_diary, .ref x_base, .ref x_trial, .ref x_plan, .ref x_orders, .ref x_unanswered, .int 0, .int 0, .int (-1)]))] := hD
  have hw : r_1 = 1 := hw
  subst hw
  refine lv_if_ne (tgt := 11) hx hb dX8_write_5 (by decide) (fun c_2 => ?_) (fun c_2 => absurd c_2 (by decide))
  refine lv_aload_n hx hb dX8_write_11 rfl (lv_at hl 0 rfl) ?_
  refine va_get (D := (dC, dI)) (ci := 8) (v := .ref x_slots) (C := RX8) (T := TX8) (N := 15) hx hb hts inA8 hown hK hP 2 rfl rfl 5 (by decide) (hts _ w_29) (fun _ h9 => h9) rfl dX8_write_12 ?_
  refine lv_iload_n hx hb dX8_write_15 rfl (lv_at hl 1 rfl) ?_
  refine va_aldq hx hb hK hP 0 0 rfl rfl (show vp_in 1 4 from (by unfold vp_in; decide)) dX8_write_16 ?_
  refine W.eq (g2 := F0 m 17 ls [.ref s1]) rfl ?_
  refine lv_astore (lv' := [(5, .ref s1), (0, .ref h0), (1, .int 1), (2, .int a), (3, .long b)]) hx hb dX8_write_17 hl (by decide) rfl (fun ls hl => ?_)
  refine lv_aload hx hb dX8_write_19 (lv_at hl 0 rfl) ?_
  refine va_get (D := (dC, dI)) (ci := 5) (v := .int 0) (C := RX5) (T := TX5) (N := 4) hx hb hts inA5 hown hK hP 1 rfl rfl 1 (by decide) (hts _ w_1283) (fun _ h9 => h9) rfl dX8_write_21 ?_
  refine lv_if_ne (tgt := 30) hx hb dX8_write_24 (by decide) (fun c_3 => absurd (by decide) c_3) (fun c_3 => ?_)
  refine lv_bipush (v := (-6)) hx hb dX8_write_27 (by decide) ?_
  exact W.iret (v := (-6)) hx hb hr (fun t ht hW => ⟨⟨(-6), (), rfl, rfl, trivial⟩, hS.F ht⟩) hS.2.2 dX8_write_29
set_option maxHeartbeats 4000000 in
set_option maxRecDepth 100000 in
theorem x_row2 (l : Launch) (dC : Nat → ClassId) (dI : Nat → Nat → Nat) (sz : Nat) (h0 : Nat) (x_tape : Nat) (x_reader : Nat) (x_current : Nat) (x_images : Nat) (x_kept : Nat) (x_slots : Nat) (x_diary : Nat) (x_base : Nat) (x_trial : Nat) (x_plan : Nat) (x_orders : Nat) (x_unanswered : Nat) (s0 : Nat) (s1 : Nat) (s2 : Nat) (s3 : Nat) (y0 : Nat) (y1 : Nat) (y2 : Nat) (y3 : Nat) (zk : ClassId) (sk2 : ClassId) (sf2 : Nat → Int64) (a : Int32) (b : Int32) (h1 : 0 ≤ a.toInt) (h2 : a.toInt ≤ 3) (h3 : 0 ≤ b.toInt) (h4 : b.toInt ≤ 60) : Met l yX8_row (.code yX8_row cX8_row 4 (some .int) :: ALLW) ({ frames := 2, cells := 0, slots := 0, locals := 46 }) (va_Pc [.ref h0, .int 2, .int a, .int b] (fun U => U.heap.size = sz ∧ va_P (dC, dI) vwCl [(h0, .inr (8, [.ref x_tape, .ref x_reader, .ref x_current, .ref x_images, .ref x_kept, .ref x_slots, .ref x_diary, .ref x_base, .ref x_trial, .ref x_plan, .ref x_orders, .ref x_unanswered, .int 0, .int 0, .int (-1)])), (x_slots, .inl (zk, 4, .inr (.inr (.inr (.inr (va_up (va_up (va_up (va_up (fun _ => none) 0 (some s0)) 1 (some s1)) 2 (some s2)) 3 (some s3))))))), (s2, .inr (5, [.ref y2, .int 0, .int 0, .int 0])), (y2, .inl (sk2, 60, .inr (.inl sf2)))] U.heap ∧ va_K (dC, dI) vwCl [(zk, .object RX5), (sk2, .long)] U ∧ va_D (fun _ => True) [(h0, .inr (8, [.ref x_tape, .ref x_reader, .ref x_current, .ref x_images, .ref x_kept, .ref x_slots, .ref x_diary, .ref x_base, .ref x_trial, .ref x_plan, .ref x_orders, .ref x_unanswered, .int 0, .int 0, .int (-1)])), (x_slots, .inl (zk, 4, .inr (.inr (.inr (.inr (va_up (va_up (va_up (va_up (fun _ => none) 0 (some s0)) 1 (some s1)) 2 (some s2)) 3 (some s3))))))), (s2, .inr (5, [.ref y2, .int 0, .int 0, .int 0])), (y2, .inl (sk2, 60, .inr (.inl sf2)))])) (va_Qi (fun (r : Int32) (_ : Unit) => r = 0) (fun (_ : Unit) (_ : State) => True) (va_A [(h0, .inr (8, [.ref x_tape, .ref x_reader, .ref x_current, .ref x_images, .ref x_kept, .ref x_slots, .ref x_diary, .ref x_base, .ref x_trial, .ref x_plan, .ref x_orders, .ref x_unanswered, .int 0, .int 0, .int (-1)])), (x_slots, .inl (zk, 4, .inr (.inr (.inr (.inr (va_up (va_up (va_up (va_up (fun _ => none) 0 (some s0)) 1 (some s1)) 2 (some s2)) 3 (some s3))))))), (s2, .inr (5, [.ref y2, .int 0, .int 0, .int 0])), (y2, .inl (sk2, 60, .inr (.inl sf2)))] sz)) 0 0 (va_A [(h0, .inr (8, [.ref x_tape, .ref x_reader, .ref x_current, .ref x_images, .ref x_kept, .ref x_slots, .ref x_diary, .ref x_base, .ref x_trial, .ref x_plan, .ref x_orders, .ref x_unanswered, .int 0, .int 0, .int (-1)])), (x_slots, .inl (zk, 4, .inr (.inr (.inr (.inr (va_up (va_up (va_up (va_up (fun _ => none) 0 (some s0)) 1 (some s1)) 2 (some s2)) 3 (some s3))))))), (s2, .inr (5, [.ref y2, .int 0, .int 0, .int 0])), (y2, .inl (sk2, 60, .inr (.inl sf2)))] sz) := by
  refine Met.ofW (cc := cX8_row) (maxL := 4) (ret := (some .int)) (by decide) rfl ?_
  intro p e s m args below meth c s₁ B hml hv
  obtain ⟨rfl, hsz, hP, hK, hD0⟩ := hv
  have hx := B.exec
  have hb := B.bytes
  have hr := B.returns
  have hts0 := atoms_spec (ws := (.code yX8_row cX8_row 4 (some .int) :: ALLW)) B.pre
  have hts := fun (w : Cond) (h : w ∈ ALLW) => hts0 w (List.mem_cons_of_mem _ h)
  have hown : s.vm.findClass RX8 = some m.cls := findClass_of_methodNamed B.named
  have hlocks := B.notSynchronized
  subst hsz
  have hD := hD0.self (sz := s.heap.size)
  generalize hAe : va_A [(h0, .inr (8, [.ref x_tape, .ref x_reader, .ref x_current, .ref x_images, .ref x_kept, .ref x_slots, .ref x_diary, .ref x_base, .ref x_trial, .ref x_plan, .ref x_orders, .ref x_unanswered, .int 0, .int 0, .int (-1)])), (x_slots, .inl (zk, 4, .inr (.inr (.inr (.inr (va_up (va_up (va_up (va_up (fun _ => none) 0 (some s0)) 1 (some s1)) 2 (some s2)) 3 (some s3))))))), (s2, .inr (5, [.ref y2, .int 0, .int 0, .int 0])), (y2, .inl (sk2, 60, .inr (.inl sf2)))] s.heap.size = A at hD ⊢
  have hA : ∀ q : Nat, s.heap.size ≤ q → A q := fun q h => by rw [← hAe]; exact Or.inr h
  have hS : va_S A s.heap s.heap [] := va_S.rf
  have hP : va_P (dC, dI) vwCl [(h0, .inr (8, [.ref x_tape, .ref x_reader, .ref x_current, .ref x_images, .ref x_kept, .ref x_slots, .ref x_diary, .ref x_base, .ref x_trial, .ref x_plan, .ref x_orders, .ref x_unanswered, .int 0, .int 0, .int (-1)])), (x_slots, .inl (zk, 4, .inr (.inr (.inr (.inr (va_up (va_up (va_up (va_up (fun _ => none) 0 (some s0)) 1 (some s1)) 2 (some s2)) 3 (some s3))))))), (s2, .inr (5, [.ref y2, .int 0, .int 0, .int 0])), (y2, .inl (sk2, 60, .inr (.inl sf2)))] s.heap := hP
  have hl := lv_entry ([.ref h0, .int 2, .int a, .int b]) (n := 4) (Nat.le_of_ble_eq_true rfl)
  rw [lg_entry_eq]
  generalize (lg_sl ([.ref h0, .int 2, .int a, .int b]) ++ List.replicate (4 - (lg_sl ([.ref h0, .int 2, .int a, .int b])).length) Slot.unset).toArray = ls at hl ⊢
  have hl : lv_has ls 4 [(0, .ref h0), (1, .int 2), (2, .int a), (3, .int b)] := hl
  refine lv_aload_n hx hb dX8_row_0 rfl (lv_at hl 0 rfl) ?_
  refine lv_iload_n hx hb dX8_row_1 rfl (lv_at hl 1 rfl) ?_
  have hPc := hP.sub (ws' := [(h0, .inr (8, [.ref x_tape, .ref x_reader, .ref x_current, .ref x_images, .ref x_kept, .ref x_slots, .ref x_diary, .ref x_base, .ref x_trial, .ref x_plan, .ref x_orders, .ref x_unanswered, .int 0, .int 0, .int (-1)]))]) [0] rfl
  have hDc := hD.sub (ws' := [(h0, .inr (8, [.ref x_tape, .ref x_reader, .ref x_current, .ref x_images, .ref x_kept, .ref x_slots, .ref x_diary, .ref x_base, .ref x_trial, .ref x_plan, .ref x_orders, .ref x_unanswered, .int 0, .int 0, .int (-1)]))]) [0] (by decide) rfl
  have hKc := hK.sub (tys' := []) [] rfl
  have hFc := va_free (wc := [(h0, .inr (8, [.ref x_tape, .ref x_reader, .ref x_current, .ref x_images, .ref x_kept, .ref x_slots, .ref x_diary, .ref x_base, .ref x_trial, .ref x_plan, .ref x_orders, .ref x_unanswered, .int 0, .int 0, .int (-1)]))]) hD hS hA [0] rfl
  refine va_calli (va_runV (As := [.int 2]) (rest := []) ⟨hx, hb, hml, hown, hts⟩ (c_isSlot2 l dC dI s.heap.size h0 x_tape x_reader x_current x_images x_kept x_slots x_diary x_base x_trial x_plan x_orders x_unanswered ) (cwV 1 hts (goodV w_1288 w_1289 w_1290 w_2 w_1291) rfl rfl rfl hdV_X8_isSlot ⟨Nat.le_of_ble_eq_true rfl, Nat.le_of_ble_eq_true rfl⟩) ⟨fun a U g mk q => by obtain ⟨q0, q1, qP, qK, qD⟩ := q; exact ⟨q0, q1, qP, va_K.moved (u := U) (U := U.calling g mk a) (Vm.Alike.refl U.vm) qK, qD⟩, va_recv hKc hPc (ci := 8) (q0 := 0) rfl rfl, fun U hU hW => ⟨rfl, by rw [hU], by rw [hU]; exact hPc, va_K.moved hW.alike hKc, hDc.weaken (fun _ _ _ _ => trivial)⟩⟩ rfl rfl hl.1 rfl (lv_room (Nat.le_of_ble_eq_true rfl)) dX8_row_2 ⟨Nat.le_of_ble_eq_true rfl, Nat.le_of_ble_eq_true rfl⟩) hS (fun q _ h => hFc q h) hFc (fun r_1 u t H1 locs ht hvm hw hB hz1 hk1 hS => ?_)
  obtain ⟨hP1, hK1, hD1⟩ := hB
  rw [ht] at hP1
  have hK1 := va_K.moved hvm.symm hK1
  obtain ⟨hP, hD⟩ := va_join (wr := [(x_slots, .inl (zk, 4, .inr (.inr (.inr (.inr (va_up (va_up (va_up (va_up (fun _ => none) 0 (some s0)) 1 (some s1)) 2 (some s2)) 3 (some s3))))))), (s2, .inr (5, [.ref y2, .int 0, .int 0, .int 0])), (y2, .inl (sk2, 60, .inr (.inl sf2)))]) (w1 := [(h0, .inr (8, [.ref x_tape, .ref x_reader, .ref x_current, .ref x_images, .ref x_kept, .ref x_slots, .ref x_diary, .ref x_base, .ref x_trial, .ref x_plan, .ref x_orders, .ref x_unanswered, .int 0, .int 0, .int (-1)]))]) hP hD [0] [1, 2, 3] rfl rfl (by decide) (by decide) hk1 hFc hP1 hD1
  clear hPc hDc hKc hFc
  generalize H1 = H at hP hS ⊢
  have hP : va_P (dC, dI) vwCl [(x_slots, .inl (zk, 4, .inr (.inr (.inr (.inr (va_up (va_up (va_up (va_up (fun _ => none) 0 (some s0)) 1 (some s1)) 2 (some s2)) 3 (some s3))))))), (s2, .inr (5, [.ref y2, .int 0, .int 0, .int 0])), (y2, .inl (sk2, 60, .inr (.inl sf2))), (h0, .inr (8, [.ref x_tape, .ref x_reader, .ref x_current, .ref x_images, .ref x_kept, .ref x_slots, .ref x_diary, .ref x_base, .ref x_trial, .ref x_plan, .ref x_orders, .ref x_unanswered, .int 0, .int 0, .int (-1)]))] H := hP
  have hD : va_D A [(x_slots, .inl (zk, 4, .inr (.inr (.inr (.inr (va_up (va_up (va_up (va_up (fun _ => none) 0 (some s0)) 1 (some s1)) 2 (some s2)) 3 (some s3))))))), (s2, .inr (5, [.ref y2, .int 0, .int 0, .int 0])), (y2, .inl (sk2, 60, .inr (.inl sf2))), (h0, .inr (8, [.ref x_tape, .ref x_reader, .ref x_current, .ref x_images, .ref x_kept, .ref x_slots, .ref x_diary, .ref x_base, .ref x_trial, .ref x_plan, .ref x_orders, .ref x_unanswered, .int 0, .int 0, .int (-1)]))] := hD
  have hw : r_1 = 1 := hw
  subst hw
  refine lv_if_eq (tgt := 23) hx hb dX8_row_5 (by decide) (fun c_2 => absurd c_2 (by decide)) (fun c_2 => ?_)
  refine lv_iload_n hx hb dX8_row_8 rfl (lv_at hl 2 rfl) ?_
  refine lv_if_lt (tgt := 23) hx hb dX8_row_9 (by decide) (fun c_3 => absurd (q_lt (a := a.toInt) (b := 0) rfl (by decide) c_3) (by omega)) (fun c_3 => ?_)
  have ec_3 := q_nlt (a := a.toInt) (b := 0) rfl (by decide) c_3
  refine lv_iload_n hx hb dX8_row_12 rfl (lv_at hl 2 rfl) ?_
  refine lv_iconst (v := 3) hx hb dX8_row_13 (by decide) ?_
  refine lv_icmp_gt (tgt := 23) hx hb dX8_row_14 (by decide) (fun c_4 => absurd (q_gt (a := a.toInt) (b := 3) rfl (by decide) c_4) (by omega)) (fun c_4 => ?_)
  have ec_4 := q_ngt (a := a.toInt) (b := 3) rfl (by decide) c_4
  refine lv_iload_n hx hb dX8_row_17 rfl (lv_at hl 3 rfl) ?_
  refine lv_bipush (v := 60) hx hb dX8_row_18 (by decide) ?_
  refine lv_icmp_le (tgt := 26) hx hb dX8_row_20 (by decide) (fun c_5 => ?_) (fun c_5 => absurd (q_nle (a := b.toInt) (b := 60) rfl (by decide) c_5) (by omega))
  have ec_5 := q_le (a := b.toInt) (b := 60) rfl (by decide) c_5
  refine lv_iload_n hx hb dX8_row_26 rfl (lv_at hl 3 rfl) ?_
  refine lv_if_ge (tgt := 33) hx hb dX8_row_27 (by decide) (fun c_6 => ?_) (fun c_6 => absurd (q_nge (a := b.toInt) (b := 0) rfl (by decide) c_6) (by omega))
  have ec_6 := q_ge (a := b.toInt) (b := 0) rfl (by decide) c_6
  refine lv_aload_n hx hb dX8_row_33 rfl (lv_at hl 0 rfl) ?_
  refine va_get (D := (dC, dI)) (ci := 8) (v := .ref x_slots) (C := RX8) (T := TX8) (N := 15) hx hb hts inA8 hown hK hP 3 rfl rfl 5 (by decide) (hts _ w_29) (fun _ h9 => h9) rfl dX8_row_34 ?_
  refine lv_iload_n hx hb dX8_row_37 rfl (lv_at hl 1 rfl) ?_
  refine va_aldq hx hb hK hP 0 0 rfl rfl (show vp_in 2 4 from (by unfold vp_in; decide)) dX8_row_38 ?_
  refine W.eq (g2 := F0 m 39 ls [.ref s2]) rfl ?_
  refine lv_iload_n hx hb dX8_row_39 rfl (lv_at hl 2 rfl) ?_
  refine lv_iload_n hx hb dX8_row_40 rfl (lv_at hl 3 rfl) ?_
  have hPc := hP.sub (ws' := [(s2, .inr (5, [.ref y2, .int 0, .int 0, .int 0])), (y2, .inl (sk2, 60, .inr (.inl sf2)))]) [1, 2] rfl
  have hDc := hD.sub (ws' := [(s2, .inr (5, [.ref y2, .int 0, .int 0, .int 0])), (y2, .inl (sk2, 60, .inr (.inl sf2)))]) [1, 2] (by decide) rfl
  have hKc := hK.sub (tys' := [(sk2, .long)]) [1] rfl
  have hFc := va_free (wc := [(s2, .inr (5, [.ref y2, .int 0, .int 0, .int 0])), (y2, .inl (sk2, 60, .inr (.inl sf2)))]) hD hS hA [1, 2] rfl
  refine va_callv (va_runV (As := [.int a, .int b]) (rest := []) ⟨hx, hb, hml, hown, hts⟩ (c_begin l dC dI H.size s2 y2 sk2 sf2 a b ) (cwV 2 hts (goodV w_1332 w_1333 w_1334 w_53 w_1335) rfl rfl rfl hdV_X5_begin ⟨Nat.le_of_ble_eq_true rfl, Nat.le_of_ble_eq_true rfl⟩) ⟨fun a U g mk q => by obtain ⟨q0, q1, qP, qK, qD⟩ := q; exact ⟨q0, q1, qP, va_K.moved (u := U) (U := U.calling g mk a) (Vm.Alike.refl U.vm) qK, qD⟩, va_recv hKc hPc (ci := 5) (q0 := 0) rfl rfl, fun U hU hW => ⟨rfl, by rw [hU], by rw [hU]; exact hPc, va_K.moved hW.alike hKc, hDc.weaken (fun _ _ _ _ => trivial)⟩⟩ rfl rfl hl.1 rfl (lv_room (Nat.le_of_ble_eq_true rfl)) dX8_row_41 ⟨Nat.le_of_ble_eq_true rfl, Nat.le_of_ble_eq_true rfl⟩) hS (fun q _ h => hFc q h) hFc (fun  u t H1 locs ht hvm hw hB hz1 hk1 hS => ?_)
  obtain ⟨hP, hD⟩ := va_join (wr := [(x_slots, .inl (zk, 4, .inr (.inr (.inr (.inr (va_up (va_up (va_up (va_up (fun _ => none) 0 (some s0)) 1 (some s1)) 2 (some s2)) 3 (some s3))))))), (h0, .inr (8, [.ref x_tape, .ref x_reader, .ref x_current, .ref x_images, .ref x_kept, .ref x_slots, .ref x_diary, .ref x_base, .ref x_trial, .ref x_plan, .ref x_orders, .ref x_unanswered, .int 0, .int 0, .int (-1)]))]) (w1 := []) hP hD [1, 2] [0, 3] rfl rfl (by decide) (by decide) hk1 hFc nilP nilD
  clear hPc hDc hKc hFc
  generalize H1 = H at hP hS ⊢
  have hP : va_P (dC, dI) vwCl [(x_slots, .inl (zk, 4, .inr (.inr (.inr (.inr (va_up (va_up (va_up (va_up (fun _ => none) 0 (some s0)) 1 (some s1)) 2 (some s2)) 3 (some s3))))))), (h0, .inr (8, [.ref x_tape, .ref x_reader, .ref x_current, .ref x_images, .ref x_kept, .ref x_slots, .ref x_diary, .ref x_base, .ref x_trial, .ref x_plan, .ref x_orders, .ref x_unanswered, .int 0, .int 0, .int (-1)]))] H := hP
  have hD : va_D A [(x_slots, .inl (zk, 4, .inr (.inr (.inr (.inr (va_up (va_up (va_up (va_up (fun _ => none) 0 (some s0)) 1 (some s1)) 2 (some s2)) 3 (some s3))))))), (h0, .inr (8, [.ref x_tape, .ref x_reader, .ref x_current, .ref x_images, .ref x_kept, .ref x_slots, .ref x_diary, .ref x_base, .ref x_trial, .ref x_plan, .ref x_orders, .ref x_unanswered, .int 0, .int 0, .int (-1)]))] := hD
  refine lv_iconst (v := 0) hx hb dX8_row_44 (by decide) ?_
  exact W.iret (v := 0) hx hb hr (fun t ht hW => ⟨⟨0, (), rfl, rfl, trivial⟩, hS.F ht⟩) hS.2.2 dX8_row_45
set_option maxHeartbeats 4000000 in
set_option maxRecDepth 100000 in
theorem x_rowB2 (l : Launch) (dC : Nat → ClassId) (dI : Nat → Nat → Nat) (sz : Nat) (h0 : Nat) (x_tape : Nat) (x_reader : Nat) (x_current : Nat) (x_images : Nat) (x_kept : Nat) (x_slots : Nat) (x_diary : Nat) (x_base : Nat) (x_trial : Nat) (x_plan : Nat) (x_orders : Nat) (x_unanswered : Nat) (a : Int32) (b : Int32) (h1 : 0 ≤ a.toInt) (h2 : a.toInt ≤ 3) (h3 : b.toInt < 0) : Met l yX8_row (.code yX8_row cX8_row 4 (some .int) :: ALLW) ({ frames := 1, cells := 0, slots := 0, locals := 21 }) (va_Pc [.ref h0, .int 2, .int a, .int b] (fun U => U.heap.size = sz ∧ va_P (dC, dI) vwCl [(h0, .inr (8, [.ref x_tape, .ref x_reader, .ref x_current, .ref x_images, .ref x_kept, .ref x_slots, .ref x_diary, .ref x_base, .ref x_trial, .ref x_plan, .ref x_orders, .ref x_unanswered, .int 0, .int 0, .int (-1)]))] U.heap ∧ va_K (dC, dI) vwCl [] U ∧ va_D (fun _ => True) [(h0, .inr (8, [.ref x_tape, .ref x_reader, .ref x_current, .ref x_images, .ref x_kept, .ref x_slots, .ref x_diary, .ref x_base, .ref x_trial, .ref x_plan, .ref x_orders, .ref x_unanswered, .int 0, .int 0, .int (-1)]))])) (va_Qi (fun (r : Int32) (_ : Unit) => r = (-3)) (fun (_ : Unit) (_ : State) => True) (va_A [(h0, .inr (8, [.ref x_tape, .ref x_reader, .ref x_current, .ref x_images, .ref x_kept, .ref x_slots, .ref x_diary, .ref x_base, .ref x_trial, .ref x_plan, .ref x_orders, .ref x_unanswered, .int 0, .int 0, .int (-1)]))] sz)) 0 0 (va_A [(h0, .inr (8, [.ref x_tape, .ref x_reader, .ref x_current, .ref x_images, .ref x_kept, .ref x_slots, .ref x_diary, .ref x_base, .ref x_trial, .ref x_plan, .ref x_orders, .ref x_unanswered, .int 0, .int 0, .int (-1)]))] sz) := by
  refine Met.ofW (cc := cX8_row) (maxL := 4) (ret := (some .int)) (by decide) rfl ?_
  intro p e s m args below meth c s₁ B hml hv
  obtain ⟨rfl, hsz, hP, hK, hD0⟩ := hv
  have hx := B.exec
  have hb := B.bytes
  have hr := B.returns
  have hts0 := atoms_spec (ws := (.code yX8_row cX8_row 4 (some .int) :: ALLW)) B.pre
  have hts := fun (w : Cond) (h : w ∈ ALLW) => hts0 w (List.mem_cons_of_mem _ h)
  have hown : s.vm.findClass RX8 = some m.cls := findClass_of_methodNamed B.named
  have hlocks := B.notSynchronized
  subst hsz
  have hD := hD0.self (sz := s.heap.size)
  generalize hAe : va_A [(h0, .inr (8, [.ref x_tape, .ref x_reader, .ref x_current, .ref x_images, .ref x_kept, .ref x_slots, .ref x_diary, .ref x_base, .ref x_trial, .ref x_plan, .ref x_orders, .ref x_unanswered, .int 0, .int 0, .int (-1)]))] s.heap.size = A at hD ⊢
  have hA : ∀ q : Nat, s.heap.size ≤ q → A q := fun q h => by rw [← hAe]; exact Or.inr h
  have hS : va_S A s.heap s.heap [] := va_S.rf
  have hP : va_P (dC, dI) vwCl [(h0, .inr (8, [.ref x_tape, .ref x_reader, .ref x_current, .ref x_images, .ref x_kept, .ref x_slots, .ref x_diary, .ref x_base, .ref x_trial, .ref x_plan, .ref x_orders, .ref x_unanswered, .int 0, .int 0, .int (-1)]))] s.heap := hP
  have hl := lv_entry ([.ref h0, .int 2, .int a, .int b]) (n := 4) (Nat.le_of_ble_eq_true rfl)
  rw [lg_entry_eq]
  generalize (lg_sl ([.ref h0, .int 2, .int a, .int b]) ++ List.replicate (4 - (lg_sl ([.ref h0, .int 2, .int a, .int b])).length) Slot.unset).toArray = ls at hl ⊢
  have hl : lv_has ls 4 [(0, .ref h0), (1, .int 2), (2, .int a), (3, .int b)] := hl
  refine lv_aload_n hx hb dX8_row_0 rfl (lv_at hl 0 rfl) ?_
  refine lv_iload_n hx hb dX8_row_1 rfl (lv_at hl 1 rfl) ?_
  have hPc := hP.sub (ws' := [(h0, .inr (8, [.ref x_tape, .ref x_reader, .ref x_current, .ref x_images, .ref x_kept, .ref x_slots, .ref x_diary, .ref x_base, .ref x_trial, .ref x_plan, .ref x_orders, .ref x_unanswered, .int 0, .int 0, .int (-1)]))]) [0] rfl
  have hDc := hD.sub (ws' := [(h0, .inr (8, [.ref x_tape, .ref x_reader, .ref x_current, .ref x_images, .ref x_kept, .ref x_slots, .ref x_diary, .ref x_base, .ref x_trial, .ref x_plan, .ref x_orders, .ref x_unanswered, .int 0, .int 0, .int (-1)]))]) [0] (by decide) rfl
  have hKc := hK.sub (tys' := []) [] rfl
  have hFc := va_free (wc := [(h0, .inr (8, [.ref x_tape, .ref x_reader, .ref x_current, .ref x_images, .ref x_kept, .ref x_slots, .ref x_diary, .ref x_base, .ref x_trial, .ref x_plan, .ref x_orders, .ref x_unanswered, .int 0, .int 0, .int (-1)]))]) hD hS hA [0] rfl
  refine va_calli (va_runV (As := [.int 2]) (rest := []) ⟨hx, hb, hml, hown, hts⟩ (c_isSlot2 l dC dI s.heap.size h0 x_tape x_reader x_current x_images x_kept x_slots x_diary x_base x_trial x_plan x_orders x_unanswered ) (cwV 1 hts (goodV w_1288 w_1289 w_1290 w_2 w_1291) rfl rfl rfl hdV_X8_isSlot ⟨Nat.le_of_ble_eq_true rfl, Nat.le_of_ble_eq_true rfl⟩) ⟨fun a U g mk q => by obtain ⟨q0, q1, qP, qK, qD⟩ := q; exact ⟨q0, q1, qP, va_K.moved (u := U) (U := U.calling g mk a) (Vm.Alike.refl U.vm) qK, qD⟩, va_recv hKc hPc (ci := 8) (q0 := 0) rfl rfl, fun U hU hW => ⟨rfl, by rw [hU], by rw [hU]; exact hPc, va_K.moved hW.alike hKc, hDc.weaken (fun _ _ _ _ => trivial)⟩⟩ rfl rfl hl.1 rfl (lv_room (Nat.le_of_ble_eq_true rfl)) dX8_row_2 ⟨Nat.le_of_ble_eq_true rfl, Nat.le_of_ble_eq_true rfl⟩) hS (fun q _ h => hFc q h) hFc (fun r_1 u t H1 locs ht hvm hw hB hz1 hk1 hS => ?_)
  obtain ⟨hP1, hK1, hD1⟩ := hB
  rw [ht] at hP1
  have hK1 := va_K.moved hvm.symm hK1
  obtain ⟨hP, hD⟩ := va_join (wr := []) (w1 := [(h0, .inr (8, [.ref x_tape, .ref x_reader, .ref x_current, .ref x_images, .ref x_kept, .ref x_slots, .ref x_diary, .ref x_base, .ref x_trial, .ref x_plan, .ref x_orders, .ref x_unanswered, .int 0, .int 0, .int (-1)]))]) hP hD [0] [] rfl rfl (by decide) (by decide) hk1 hFc hP1 hD1
  clear hPc hDc hKc hFc
  generalize H1 = H at hP hS ⊢
  have hP : va_P (dC, dI) vwCl [(h0, .inr (8, [.ref x_tape, .ref x_reader, .ref x_current, .ref x_images, .ref x_kept, .ref x_slots, .ref x_diary, .ref x_base, .ref x_trial, .ref x_plan, .ref x_orders, .ref x_unanswered, .int 0, .int 0, .int (-1)]))] H := hP
  have hD : va_D A [(h0, .inr (8, [.ref x_tape, .ref x_reader, .ref x_current, .ref x_images, .ref x_kept, .ref x_slots, .ref x_diary, .ref x_base, .ref x_trial, .ref x_plan, .ref x_orders, .ref x_unanswered, .int 0, .int 0, .int (-1)]))] := hD
  have hw : r_1 = 1 := hw
  subst hw
  refine lv_if_eq (tgt := 23) hx hb dX8_row_5 (by decide) (fun c_2 => absurd c_2 (by decide)) (fun c_2 => ?_)
  refine lv_iload_n hx hb dX8_row_8 rfl (lv_at hl 2 rfl) ?_
  refine lv_if_lt (tgt := 23) hx hb dX8_row_9 (by decide) (fun c_3 => absurd (q_lt (a := a.toInt) (b := 0) rfl (by decide) c_3) (by omega)) (fun c_3 => ?_)
  have ec_3 := q_nlt (a := a.toInt) (b := 0) rfl (by decide) c_3
  refine lv_iload_n hx hb dX8_row_12 rfl (lv_at hl 2 rfl) ?_
  refine lv_iconst (v := 3) hx hb dX8_row_13 (by decide) ?_
  refine lv_icmp_gt (tgt := 23) hx hb dX8_row_14 (by decide) (fun c_4 => absurd (q_gt (a := a.toInt) (b := 3) rfl (by decide) c_4) (by omega)) (fun c_4 => ?_)
  have ec_4 := q_ngt (a := a.toInt) (b := 3) rfl (by decide) c_4
  refine lv_iload_n hx hb dX8_row_17 rfl (lv_at hl 3 rfl) ?_
  refine lv_bipush (v := 60) hx hb dX8_row_18 (by decide) ?_
  refine lv_icmp_le (tgt := 26) hx hb dX8_row_20 (by decide) (fun c_5 => ?_) (fun c_5 => absurd (q_nle (a := b.toInt) (b := 60) rfl (by decide) c_5) (by omega))
  have ec_5 := q_le (a := b.toInt) (b := 60) rfl (by decide) c_5
  refine lv_iload_n hx hb dX8_row_26 rfl (lv_at hl 3 rfl) ?_
  refine lv_if_ge (tgt := 33) hx hb dX8_row_27 (by decide) (fun c_6 => absurd (q_ge (a := b.toInt) (b := 0) rfl (by decide) c_6) (by omega)) (fun c_6 => ?_)
  have ec_6 := q_nge (a := b.toInt) (b := 0) rfl (by decide) c_6
  refine lv_bipush (v := (-3)) hx hb dX8_row_30 (by decide) ?_
  exact W.iret (v := (-3)) hx hb hr (fun t ht hW => ⟨⟨(-3), (), rfl, rfl, trivial⟩, hS.F ht⟩) hS.2.2 dX8_row_32
set_option maxHeartbeats 4000000 in
set_option maxRecDepth 100000 in
theorem x_rowN2 (l : Launch) (dC : Nat → ClassId) (dI : Nat → Nat → Nat) (sz : Nat) (h0 : Nat) (x_tape : Nat) (x_reader : Nat) (x_current : Nat) (x_images : Nat) (x_kept : Nat) (x_slots : Nat) (x_diary : Nat) (x_base : Nat) (x_trial : Nat) (x_plan : Nat) (x_orders : Nat) (x_unanswered : Nat) (a : Int32) (b : Int32) (h1 : a.toInt < 0 ∨ 3 < a.toInt ∨ 60 < b.toInt) : Met l yX8_row (.code yX8_row cX8_row 4 (some .int) :: ALLW) ({ frames := 1, cells := 0, slots := 0, locals := 21 }) (va_Pc [.ref h0, .int 2, .int a, .int b] (fun U => U.heap.size = sz ∧ va_P (dC, dI) vwCl [(h0, .inr (8, [.ref x_tape, .ref x_reader, .ref x_current, .ref x_images, .ref x_kept, .ref x_slots, .ref x_diary, .ref x_base, .ref x_trial, .ref x_plan, .ref x_orders, .ref x_unanswered, .int 0, .int 0, .int (-1)]))] U.heap ∧ va_K (dC, dI) vwCl [] U ∧ va_D (fun _ => True) [(h0, .inr (8, [.ref x_tape, .ref x_reader, .ref x_current, .ref x_images, .ref x_kept, .ref x_slots, .ref x_diary, .ref x_base, .ref x_trial, .ref x_plan, .ref x_orders, .ref x_unanswered, .int 0, .int 0, .int (-1)]))])) (va_Qi (fun (r : Int32) (_ : Unit) => r = (-2)) (fun (_ : Unit) (_ : State) => True) (va_A [(h0, .inr (8, [.ref x_tape, .ref x_reader, .ref x_current, .ref x_images, .ref x_kept, .ref x_slots, .ref x_diary, .ref x_base, .ref x_trial, .ref x_plan, .ref x_orders, .ref x_unanswered, .int 0, .int 0, .int (-1)]))] sz)) 0 0 (va_A [(h0, .inr (8, [.ref x_tape, .ref x_reader, .ref x_current, .ref x_images, .ref x_kept, .ref x_slots, .ref x_diary, .ref x_base, .ref x_trial, .ref x_plan, .ref x_orders, .ref x_unanswered, .int 0, .int 0, .int (-1)]))] sz) := by
  refine Met.ofW (cc := cX8_row) (maxL := 4) (ret := (some .int)) (by decide) rfl ?_
  intro p e s m args below meth c s₁ B hml hv
  obtain ⟨rfl, hsz, hP, hK, hD0⟩ := hv
  have hx := B.exec
  have hb := B.bytes
  have hr := B.returns
  have hts0 := atoms_spec (ws := (.code yX8_row cX8_row 4 (some .int) :: ALLW)) B.pre
  have hts := fun (w : Cond) (h : w ∈ ALLW) => hts0 w (List.mem_cons_of_mem _ h)
  have hown : s.vm.findClass RX8 = some m.cls := findClass_of_methodNamed B.named
  have hlocks := B.notSynchronized
  subst hsz
  have hD := hD0.self (sz := s.heap.size)
  generalize hAe : va_A [(h0, .inr (8, [.ref x_tape, .ref x_reader, .ref x_current, .ref x_images, .ref x_kept, .ref x_slots, .ref x_diary, .ref x_base, .ref x_trial, .ref x_plan, .ref x_orders, .ref x_unanswered, .int 0, .int 0, .int (-1)]))] s.heap.size = A at hD ⊢
  have hA : ∀ q : Nat, s.heap.size ≤ q → A q := fun q h => by rw [← hAe]; exact Or.inr h
  have hS : va_S A s.heap s.heap [] := va_S.rf
  have hP : va_P (dC, dI) vwCl [(h0, .inr (8, [.ref x_tape, .ref x_reader, .ref x_current, .ref x_images, .ref x_kept, .ref x_slots, .ref x_diary, .ref x_base, .ref x_trial, .ref x_plan, .ref x_orders, .ref x_unanswered, .int 0, .int 0, .int (-1)]))] s.heap := hP
  have hl := lv_entry ([.ref h0, .int 2, .int a, .int b]) (n := 4) (Nat.le_of_ble_eq_true rfl)
  rw [lg_entry_eq]
  generalize (lg_sl ([.ref h0, .int 2, .int a, .int b]) ++ List.replicate (4 - (lg_sl ([.ref h0, .int 2, .int a, .int b])).length) Slot.unset).toArray = ls at hl ⊢
  have hl : lv_has ls 4 [(0, .ref h0), (1, .int 2), (2, .int a), (3, .int b)] := hl
  refine lv_aload_n hx hb dX8_row_0 rfl (lv_at hl 0 rfl) ?_
  refine lv_iload_n hx hb dX8_row_1 rfl (lv_at hl 1 rfl) ?_
  have hPc := hP.sub (ws' := [(h0, .inr (8, [.ref x_tape, .ref x_reader, .ref x_current, .ref x_images, .ref x_kept, .ref x_slots, .ref x_diary, .ref x_base, .ref x_trial, .ref x_plan, .ref x_orders, .ref x_unanswered, .int 0, .int 0, .int (-1)]))]) [0] rfl
  have hDc := hD.sub (ws' := [(h0, .inr (8, [.ref x_tape, .ref x_reader, .ref x_current, .ref x_images, .ref x_kept, .ref x_slots, .ref x_diary, .ref x_base, .ref x_trial, .ref x_plan, .ref x_orders, .ref x_unanswered, .int 0, .int 0, .int (-1)]))]) [0] (by decide) rfl
  have hKc := hK.sub (tys' := []) [] rfl
  have hFc := va_free (wc := [(h0, .inr (8, [.ref x_tape, .ref x_reader, .ref x_current, .ref x_images, .ref x_kept, .ref x_slots, .ref x_diary, .ref x_base, .ref x_trial, .ref x_plan, .ref x_orders, .ref x_unanswered, .int 0, .int 0, .int (-1)]))]) hD hS hA [0] rfl
  refine va_calli (va_runV (As := [.int 2]) (rest := []) ⟨hx, hb, hml, hown, hts⟩ (c_isSlot2 l dC dI s.heap.size h0 x_tape x_reader x_current x_images x_kept x_slots x_diary x_base x_trial x_plan x_orders x_unanswered ) (cwV 1 hts (goodV w_1288 w_1289 w_1290 w_2 w_1291) rfl rfl rfl hdV_X8_isSlot ⟨Nat.le_of_ble_eq_true rfl, Nat.le_of_ble_eq_true rfl⟩) ⟨fun a U g mk q => by obtain ⟨q0, q1, qP, qK, qD⟩ := q; exact ⟨q0, q1, qP, va_K.moved (u := U) (U := U.calling g mk a) (Vm.Alike.refl U.vm) qK, qD⟩, va_recv hKc hPc (ci := 8) (q0 := 0) rfl rfl, fun U hU hW => ⟨rfl, by rw [hU], by rw [hU]; exact hPc, va_K.moved hW.alike hKc, hDc.weaken (fun _ _ _ _ => trivial)⟩⟩ rfl rfl hl.1 rfl (lv_room (Nat.le_of_ble_eq_true rfl)) dX8_row_2 ⟨Nat.le_of_ble_eq_true rfl, Nat.le_of_ble_eq_true rfl⟩) hS (fun q _ h => hFc q h) hFc (fun r_1 u t H1 locs ht hvm hw hB hz1 hk1 hS => ?_)
  obtain ⟨hP1, hK1, hD1⟩ := hB
  rw [ht] at hP1
  have hK1 := va_K.moved hvm.symm hK1
  obtain ⟨hP, hD⟩ := va_join (wr := []) (w1 := [(h0, .inr (8, [.ref x_tape, .ref x_reader, .ref x_current, .ref x_images, .ref x_kept, .ref x_slots, .ref x_diary, .ref x_base, .ref x_trial, .ref x_plan, .ref x_orders, .ref x_unanswered, .int 0, .int 0, .int (-1)]))]) hP hD [0] [] rfl rfl (by decide) (by decide) hk1 hFc hP1 hD1
  clear hPc hDc hKc hFc
  generalize H1 = H at hP hS ⊢
  have hP : va_P (dC, dI) vwCl [(h0, .inr (8, [.ref x_tape, .ref x_reader, .ref x_current, .ref x_images, .ref x_kept, .ref x_slots, .ref x_diary, .ref x_base, .ref x_trial, .ref x_plan, .ref x_orders, .ref x_unanswered, .int 0, .int 0, .int (-1)]))] H := hP
  have hD : va_D A [(h0, .inr (8, [.ref x_tape, .ref x_reader, .ref x_current, .ref x_images, .ref x_kept, .ref x_slots, .ref x_diary, .ref x_base, .ref x_trial, .ref x_plan, .ref x_orders, .ref x_unanswered, .int 0, .int 0, .int (-1)]))] := hD
  have hw : r_1 = 1 := hw
  subst hw
  refine lv_if_eq (tgt := 23) hx hb dX8_row_5 (by decide) (fun c_2 => absurd c_2 (by decide)) (fun c_2 => ?_)
  refine lv_iload_n hx hb dX8_row_8 rfl (lv_at hl 2 rfl) ?_
  refine lv_if_lt (tgt := 23) hx hb dX8_row_9 (by decide) (fun c_3 => ?_) (fun c_3 => ?_)
  · have ec_3 := q_lt (a := a.toInt) (b := 0) rfl (by decide) c_3
    refine lv_bipush (v := (-2)) hx hb dX8_row_23 (by decide) ?_
    exact W.iret (v := (-2)) hx hb hr (fun t ht hW => ⟨⟨(-2), (), rfl, rfl, trivial⟩, hS.F ht⟩) hS.2.2 dX8_row_25
  · have ec_3 := q_nlt (a := a.toInt) (b := 0) rfl (by decide) c_3
    refine lv_iload_n hx hb dX8_row_12 rfl (lv_at hl 2 rfl) ?_
    refine lv_iconst (v := 3) hx hb dX8_row_13 (by decide) ?_
    refine lv_icmp_gt (tgt := 23) hx hb dX8_row_14 (by decide) (fun c_4 => ?_) (fun c_4 => ?_)
    · have ec_4 := q_gt (a := a.toInt) (b := 3) rfl (by decide) c_4
      refine lv_bipush (v := (-2)) hx hb dX8_row_23 (by decide) ?_
      exact W.iret (v := (-2)) hx hb hr (fun t ht hW => ⟨⟨(-2), (), rfl, rfl, trivial⟩, hS.F ht⟩) hS.2.2 dX8_row_25
    · have ec_4 := q_ngt (a := a.toInt) (b := 3) rfl (by decide) c_4
      refine lv_iload_n hx hb dX8_row_17 rfl (lv_at hl 3 rfl) ?_
      refine lv_bipush (v := 60) hx hb dX8_row_18 (by decide) ?_
      refine lv_icmp_le (tgt := 26) hx hb dX8_row_20 (by decide) (fun c_5 => absurd (q_le (a := b.toInt) (b := 60) rfl (by decide) c_5) (by omega)) (fun c_5 => ?_)
      have ec_5 := q_nle (a := b.toInt) (b := 60) rfl (by decide) c_5
      refine lv_bipush (v := (-2)) hx hb dX8_row_23 (by decide) ?_
      exact W.iret (v := (-2)) hx hb hr (fun t ht hW => ⟨⟨(-2), (), rfl, rfl, trivial⟩, hS.F ht⟩) hS.2.2 dX8_row_25
set_option maxHeartbeats 4000000 in
set_option maxRecDepth 100000 in
theorem x_write2 (l : Launch) (dC : Nat → ClassId) (dI : Nat → Nat → Nat) (sz : Nat) (h0 : Nat) (x_tape : Nat) (x_reader : Nat) (x_current : Nat) (x_images : Nat) (x_kept : Nat) (x_slots : Nat) (x_diary : Nat) (x_base : Nat) (x_trial : Nat) (x_plan : Nat) (x_orders : Nat) (x_unanswered : Nat) (s0 : Nat) (s1 : Nat) (s2 : Nat) (s3 : Nat) (y0 : Nat) (y1 : Nat) (y2 : Nat) (y3 : Nat) (zk : ClassId) (a : Int32) (b : Int64)  : Met l yX8_write (.code yX8_write cX8_write 6 (some .int) :: ALLW) ({ frames := 1, cells := 0, slots := 0, locals := 21 }) (va_Pc [.ref h0, .int 2, .int a, .long b] (fun U => U.heap.size = sz ∧ va_P (dC, dI) vwCl [(h0, .inr (8, [.ref x_tape, .ref x_reader, .ref x_current, .ref x_images, .ref x_kept, .ref x_slots, .ref x_diary, .ref x_base, .ref x_trial, .ref x_plan, .ref x_orders, .ref x_unanswered, .int 0, .int 0, .int (-1)])), (x_slots, .inl (zk, 4, .inr (.inr (.inr (.inr (va_up (va_up (va_up (va_up (fun _ => none) 0 (some s0)) 1 (some s1)) 2 (some s2)) 3 (some s3))))))), (s2, .inr (5, [.ref y2, .int 0, .int 0, .int 0]))] U.heap ∧ va_K (dC, dI) vwCl [(zk, .object RX5)] U ∧ va_D (fun _ => True) [(h0, .inr (8, [.ref x_tape, .ref x_reader, .ref x_current, .ref x_images, .ref x_kept, .ref x_slots, .ref x_diary, .ref x_base, .ref x_trial, .ref x_plan, .ref x_orders, .ref x_unanswered, .int 0, .int 0, .int (-1)])), (x_slots, .inl (zk, 4, .inr (.inr (.inr (.inr (va_up (va_up (va_up (va_up (fun _ => none) 0 (some s0)) 1 (some s1)) 2 (some s2)) 3 (some s3))))))), (s2, .inr (5, [.ref y2, .int 0, .int 0, .int 0]))])) (va_Qi (fun (r : Int32) (_ : Unit) => r = (-6)) (fun (_ : Unit) (_ : State) => True) (va_A [(h0, .inr (8, [.ref x_tape, .ref x_reader, .ref x_current, .ref x_images, .ref x_kept, .ref x_slots, .ref x_diary, .ref x_base, .ref x_trial, .ref x_plan, .ref x_orders, .ref x_unanswered, .int 0, .int 0, .int (-1)])), (x_slots, .inl (zk, 4, .inr (.inr (.inr (.inr (va_up (va_up (va_up (va_up (fun _ => none) 0 (some s0)) 1 (some s1)) 2 (some s2)) 3 (some s3))))))), (s2, .inr (5, [.ref y2, .int 0, .int 0, .int 0]))] sz)) 0 0 (va_A [(h0, .inr (8, [.ref x_tape, .ref x_reader, .ref x_current, .ref x_images, .ref x_kept, .ref x_slots, .ref x_diary, .ref x_base, .ref x_trial, .ref x_plan, .ref x_orders, .ref x_unanswered, .int 0, .int 0, .int (-1)])), (x_slots, .inl (zk, 4, .inr (.inr (.inr (.inr (va_up (va_up (va_up (va_up (fun _ => none) 0 (some s0)) 1 (some s1)) 2 (some s2)) 3 (some s3))))))), (s2, .inr (5, [.ref y2, .int 0, .int 0, .int 0]))] sz) := by
  refine Met.ofW (cc := cX8_write) (maxL := 6) (ret := (some .int)) (by decide) rfl ?_
  intro p e s m args below meth c s₁ B hml hv
  obtain ⟨rfl, hsz, hP, hK, hD0⟩ := hv
  have hx := B.exec
  have hb := B.bytes
  have hr := B.returns
  have hts0 := atoms_spec (ws := (.code yX8_write cX8_write 6 (some .int) :: ALLW)) B.pre
  have hts := fun (w : Cond) (h : w ∈ ALLW) => hts0 w (List.mem_cons_of_mem _ h)
  have hown : s.vm.findClass RX8 = some m.cls := findClass_of_methodNamed B.named
  have hlocks := B.notSynchronized
  subst hsz
  have hD := hD0.self (sz := s.heap.size)
  generalize hAe : va_A [(h0, .inr (8, [.ref x_tape, .ref x_reader, .ref x_current, .ref x_images, .ref x_kept, .ref x_slots, .ref x_diary, .ref x_base, .ref x_trial, .ref x_plan, .ref x_orders, .ref x_unanswered, .int 0, .int 0, .int (-1)])), (x_slots, .inl (zk, 4, .inr (.inr (.inr (.inr (va_up (va_up (va_up (va_up (fun _ => none) 0 (some s0)) 1 (some s1)) 2 (some s2)) 3 (some s3))))))), (s2, .inr (5, [.ref y2, .int 0, .int 0, .int 0]))] s.heap.size = A at hD ⊢
  have hA : ∀ q : Nat, s.heap.size ≤ q → A q := fun q h => by rw [← hAe]; exact Or.inr h
  have hS : va_S A s.heap s.heap [] := va_S.rf
  have hP : va_P (dC, dI) vwCl [(h0, .inr (8, [.ref x_tape, .ref x_reader, .ref x_current, .ref x_images, .ref x_kept, .ref x_slots, .ref x_diary, .ref x_base, .ref x_trial, .ref x_plan, .ref x_orders, .ref x_unanswered, .int 0, .int 0, .int (-1)])), (x_slots, .inl (zk, 4, .inr (.inr (.inr (.inr (va_up (va_up (va_up (va_up (fun _ => none) 0 (some s0)) 1 (some s1)) 2 (some s2)) 3 (some s3))))))), (s2, .inr (5, [.ref y2, .int 0, .int 0, .int 0]))] s.heap := hP
  have hl := lv_entry ([.ref h0, .int 2, .int a, .long b]) (n := 6) (Nat.le_of_ble_eq_true rfl)
  rw [lg_entry_eq]
  generalize (lg_sl ([.ref h0, .int 2, .int a, .long b]) ++ List.replicate (6 - (lg_sl ([.ref h0, .int 2, .int a, .long b])).length) Slot.unset).toArray = ls at hl ⊢
  have hl : lv_has ls 6 [(0, .ref h0), (1, .int 2), (2, .int a), (3, .long b)] := hl
  refine lv_aload_n hx hb dX8_write_0 rfl (lv_at hl 0 rfl) ?_
  refine lv_iload_n hx hb dX8_write_1 rfl (lv_at hl 1 rfl) ?_
  have hPc := hP.sub (ws' := [(h0, .inr (8, [.ref x_tape, .ref x_reader, .ref x_current, .ref x_images, .ref x_kept, .ref x_slots, .ref x_diary, .ref x_base, .ref x_trial, .ref x_plan, .ref x_orders, .ref x_unanswered, .int 0, .int 0, .int (-1)]))]) [0] rfl
  have hDc := hD.sub (ws' := [(h0, .inr (8, [.ref x_tape, .ref x_reader, .ref x_current, .ref x_images, .ref x_kept, .ref x_slots, .ref x_diary, .ref x_base, .ref x_trial, .ref x_plan, .ref x_orders, .ref x_unanswered, .int 0, .int 0, .int (-1)]))]) [0] (by decide) rfl
  have hKc := hK.sub (tys' := []) [] rfl
  have hFc := va_free (wc := [(h0, .inr (8, [.ref x_tape, .ref x_reader, .ref x_current, .ref x_images, .ref x_kept, .ref x_slots, .ref x_diary, .ref x_base, .ref x_trial, .ref x_plan, .ref x_orders, .ref x_unanswered, .int 0, .int 0, .int (-1)]))]) hD hS hA [0] rfl
  refine va_calli (va_runV (As := [.int 2]) (rest := []) ⟨hx, hb, hml, hown, hts⟩ (c_isSlot2 l dC dI s.heap.size h0 x_tape x_reader x_current x_images x_kept x_slots x_diary x_base x_trial x_plan x_orders x_unanswered ) (cwV 1 hts (goodV w_1288 w_1289 w_1290 w_2 w_1291) rfl rfl rfl hdV_X8_isSlot ⟨Nat.le_of_ble_eq_true rfl, Nat.le_of_ble_eq_true rfl⟩) ⟨fun a U g mk q => by obtain ⟨q0, q1, qP, qK, qD⟩ := q; exact ⟨q0, q1, qP, va_K.moved (u := U) (U := U.calling g mk a) (Vm.Alike.refl U.vm) qK, qD⟩, va_recv hKc hPc (ci := 8) (q0 := 0) rfl rfl, fun U hU hW => ⟨rfl, by rw [hU], by rw [hU]; exact hPc, va_K.moved hW.alike hKc, hDc.weaken (fun _ _ _ _ => trivial)⟩⟩ rfl rfl hl.1 rfl (lv_room (Nat.le_of_ble_eq_true rfl)) dX8_write_2 ⟨Nat.le_of_ble_eq_true rfl, Nat.le_of_ble_eq_true rfl⟩) hS (fun q _ h => hFc q h) hFc (fun r_1 u t H1 locs ht hvm hw hB hz1 hk1 hS => ?_)
  obtain ⟨hP1, hK1, hD1⟩ := hB
  rw [ht] at hP1
  have hK1 := va_K.moved hvm.symm hK1
  obtain ⟨hP, hD⟩ := va_join (wr := [(x_slots, .inl (zk, 4, .inr (.inr (.inr (.inr (va_up (va_up (va_up (va_up (fun _ => none) 0 (some s0)) 1 (some s1)) 2 (some s2)) 3 (some s3))))))), (s2, .inr (5, [.ref y2, .int 0, .int 0, .int 0]))]) (w1 := [(h0, .inr (8, [.ref x_tape, .ref x_reader, .ref x_current, .ref x_images, .ref x_kept, .ref x_slots, .ref x_diary, .ref x_base, .ref x_trial, .ref x_plan, .ref x_orders, .ref x_unanswered, .int 0, .int 0, .int (-1)]))]) hP hD [0] [1, 2] rfl rfl (by decide) (by decide) hk1 hFc hP1 hD1
  clear hPc hDc hKc hFc
  generalize H1 = H at hP hS ⊢
  have hP : va_P (dC, dI) vwCl [(x_slots, .inl (zk, 4, .inr (.inr (.inr (.inr (va_up (va_up (va_up (va_up (fun _ => none) 0 (some s0)) 1 (some s1)) 2 (some s2)) 3 (some s3))))))), (s2, .inr (5, [.ref y2, .int 0, .int 0, .int 0])), (h0, .inr (8, [.ref x_tape, .ref x_reader, .ref x_current, .ref x_images, .ref x_kept, .ref x_slots, .ref x_diary, .ref x_base, .ref x_trial, .ref x_plan, .ref x_orders, .ref x_unanswered, .int 0, .int 0, .int (-1)]))] H := hP
  have hD : va_D A [(x_slots, .inl (zk, 4, .inr (.inr (.inr (.inr (va_up (va_up (va_up (va_up (fun _ => none) 0 (some s0)) 1 (some s1)) 2 (some s2)) 3 (some s3))))))), (s2, .inr (5, [.ref y2, .int 0, .int 0, .int 0])), (h0, .inr (8, [.ref x_tape, .ref x_reader, .ref x_current, .ref x_images, .ref x_kept, .ref x_slots, .ref x_diary, .ref x_base, .ref x_trial, .ref x_plan, .ref x_orders, .ref x_unanswered, .int 0, .int 0, .int (-1)]))] := hD
  have hw : r_1 = 1 := hw
  subst hw
  refine lv_if_ne (tgt := 11) hx hb dX8_write_5 (by decide) (fun c_2 => ?_) (fun c_2 => absurd c_2 (by decide))
  refine lv_aload_n hx hb dX8_write_11 rfl (lv_at hl 0 rfl) ?_
  refine va_get (D := (dC, dI)) (ci := 8) (v := .ref x_slots) (C := RX8) (T := TX8) (N := 15) hx hb hts inA8 hown hK hP 2 rfl rfl 5 (by decide) (hts _ w_29) (fun _ h9 => h9) rfl dX8_write_12 ?_
  refine lv_iload_n hx hb dX8_write_15 rfl (lv_at hl 1 rfl) ?_
  refine va_aldq hx hb hK hP 0 0 rfl rfl (show vp_in 2 4 from (by unfold vp_in; decide)) dX8_write_16 ?_
  refine W.eq (g2 := F0 m 17 ls [.ref s2]) rfl ?_
  refine lv_astore (lv' := [(5, .ref s2), (0, .ref h0), (1, .int 2), (2, .int a), (3, .long b)]) hx hb dX8_write_17 hl (by decide) rfl (fun ls hl => ?_)
  refine lv_aload hx hb dX8_write_19 (lv_at hl 0 rfl) ?_
  refine va_get (D := (dC, dI)) (ci := 5) (v := .int 0) (C := RX5) (T := TX5) (N := 4) hx hb hts inA5 hown hK hP 1 rfl rfl 1 (by decide) (hts _ w_1283) (fun _ h9 => h9) rfl dX8_write_21 ?_
  refine lv_if_ne (tgt := 30) hx hb dX8_write_24 (by decide) (fun c_3 => absurd (by decide) c_3) (fun c_3 => ?_)
  refine lv_bipush (v := (-6)) hx hb dX8_write_27 (by decide) ?_
  exact W.iret (v := (-6)) hx hb hr (fun t ht hW => ⟨⟨(-6), (), rfl, rfl, trivial⟩, hS.F ht⟩) hS.2.2 dX8_write_29
set_option maxHeartbeats 4000000 in
set_option maxRecDepth 100000 in
theorem x_row3 (l : Launch) (dC : Nat → ClassId) (dI : Nat → Nat → Nat) (sz : Nat) (h0 : Nat) (x_tape : Nat) (x_reader : Nat) (x_current : Nat) (x_images : Nat) (x_kept : Nat) (x_slots : Nat) (x_diary : Nat) (x_base : Nat) (x_trial : Nat) (x_plan : Nat) (x_orders : Nat) (x_unanswered : Nat) (s0 : Nat) (s1 : Nat) (s2 : Nat) (s3 : Nat) (y0 : Nat) (y1 : Nat) (y2 : Nat) (y3 : Nat) (zk : ClassId) (sk3 : ClassId) (sf3 : Nat → Int64) (a : Int32) (b : Int32) (h1 : 0 ≤ a.toInt) (h2 : a.toInt ≤ 3) (h3 : 0 ≤ b.toInt) (h4 : b.toInt ≤ 60) : Met l yX8_row (.code yX8_row cX8_row 4 (some .int) :: ALLW) ({ frames := 2, cells := 0, slots := 0, locals := 46 }) (va_Pc [.ref h0, .int 3, .int a, .int b] (fun U => U.heap.size = sz ∧ va_P (dC, dI) vwCl [(h0, .inr (8, [.ref x_tape, .ref x_reader, .ref x_current, .ref x_images, .ref x_kept, .ref x_slots, .ref x_diary, .ref x_base, .ref x_trial, .ref x_plan, .ref x_orders, .ref x_unanswered, .int 0, .int 0, .int (-1)])), (x_slots, .inl (zk, 4, .inr (.inr (.inr (.inr (va_up (va_up (va_up (va_up (fun _ => none) 0 (some s0)) 1 (some s1)) 2 (some s2)) 3 (some s3))))))), (s3, .inr (5, [.ref y3, .int 0, .int 0, .int 0])), (y3, .inl (sk3, 60, .inr (.inl sf3)))] U.heap ∧ va_K (dC, dI) vwCl [(zk, .object RX5), (sk3, .long)] U ∧ va_D (fun _ => True) [(h0, .inr (8, [.ref x_tape, .ref x_reader, .ref x_current, .ref x_images, .ref x_kept, .ref x_slots, .ref x_diary, .ref x_base, .ref x_trial, .ref x_plan, .ref x_orders, .ref x_unanswered, .int 0, .int 0, .int (-1)])), (x_slots, .inl (zk, 4, .inr (.inr (.inr (.inr (va_up (va_up (va_up (va_up (fun _ => none) 0 (some s0)) 1 (some s1)) 2 (some s2)) 3 (some s3))))))), (s3, .inr (5, [.ref y3, .int 0, .int 0, .int 0])), (y3, .inl (sk3, 60, .inr (.inl sf3)))])) (va_Qi (fun (r : Int32) (_ : Unit) => r = 0) (fun (_ : Unit) (_ : State) => True) (va_A [(h0, .inr (8, [.ref x_tape, .ref x_reader, .ref x_current, .ref x_images, .ref x_kept, .ref x_slots, .ref x_diary, .ref x_base, .ref x_trial, .ref x_plan, .ref x_orders, .ref x_unanswered, .int 0, .int 0, .int (-1)])), (x_slots, .inl (zk, 4, .inr (.inr (.inr (.inr (va_up (va_up (va_up (va_up (fun _ => none) 0 (some s0)) 1 (some s1)) 2 (some s2)) 3 (some s3))))))), (s3, .inr (5, [.ref y3, .int 0, .int 0, .int 0])), (y3, .inl (sk3, 60, .inr (.inl sf3)))] sz)) 0 0 (va_A [(h0, .inr (8, [.ref x_tape, .ref x_reader, .ref x_current, .ref x_images, .ref x_kept, .ref x_slots, .ref x_diary, .ref x_base, .ref x_trial, .ref x_plan, .ref x_orders, .ref x_unanswered, .int 0, .int 0, .int (-1)])), (x_slots, .inl (zk, 4, .inr (.inr (.inr (.inr (va_up (va_up (va_up (va_up (fun _ => none) 0 (some s0)) 1 (some s1)) 2 (some s2)) 3 (some s3))))))), (s3, .inr (5, [.ref y3, .int 0, .int 0, .int 0])), (y3, .inl (sk3, 60, .inr (.inl sf3)))] sz) := by
  refine Met.ofW (cc := cX8_row) (maxL := 4) (ret := (some .int)) (by decide) rfl ?_
  intro p e s m args below meth c s₁ B hml hv
  obtain ⟨rfl, hsz, hP, hK, hD0⟩ := hv
  have hx := B.exec
  have hb := B.bytes
  have hr := B.returns
  have hts0 := atoms_spec (ws := (.code yX8_row cX8_row 4 (some .int) :: ALLW)) B.pre
  have hts := fun (w : Cond) (h : w ∈ ALLW) => hts0 w (List.mem_cons_of_mem _ h)
  have hown : s.vm.findClass RX8 = some m.cls := findClass_of_methodNamed B.named
  have hlocks := B.notSynchronized
  subst hsz
  have hD := hD0.self (sz := s.heap.size)
  generalize hAe : va_A [(h0, .inr (8, [.ref x_tape, .ref x_reader, .ref x_current, .ref x_images, .ref x_kept, .ref x_slots, .ref x_diary, .ref x_base, .ref x_trial, .ref x_plan, .ref x_orders, .ref x_unanswered, .int 0, .int 0, .int (-1)])), (x_slots, .inl (zk, 4, .inr (.inr (.inr (.inr (va_up (va_up (va_up (va_up (fun _ => none) 0 (some s0)) 1 (some s1)) 2 (some s2)) 3 (some s3))))))), (s3, .inr (5, [.ref y3, .int 0, .int 0, .int 0])), (y3, .inl (sk3, 60, .inr (.inl sf3)))] s.heap.size = A at hD ⊢
  have hA : ∀ q : Nat, s.heap.size ≤ q → A q := fun q h => by rw [← hAe]; exact Or.inr h
  have hS : va_S A s.heap s.heap [] := va_S.rf
  have hP : va_P (dC, dI) vwCl [(h0, .inr (8, [.ref x_tape, .ref x_reader, .ref x_current, .ref x_images, .ref x_kept, .ref x_slots, .ref x_diary, .ref x_base, .ref x_trial, .ref x_plan, .ref x_orders, .ref x_unanswered, .int 0, .int 0, .int (-1)])), (x_slots, .inl (zk, 4, .inr (.inr (.inr (.inr (va_up (va_up (va_up (va_up (fun _ => none) 0 (some s0)) 1 (some s1)) 2 (some s2)) 3 (some s3))))))), (s3, .inr (5, [.ref y3, .int 0, .int 0, .int 0])), (y3, .inl (sk3, 60, .inr (.inl sf3)))] s.heap := hP
  have hl := lv_entry ([.ref h0, .int 3, .int a, .int b]) (n := 4) (Nat.le_of_ble_eq_true rfl)
  rw [lg_entry_eq]
  generalize (lg_sl ([.ref h0, .int 3, .int a, .int b]) ++ List.replicate (4 - (lg_sl ([.ref h0, .int 3, .int a, .int b])).length) Slot.unset).toArray = ls at hl ⊢
  have hl : lv_has ls 4 [(0, .ref h0), (1, .int 3), (2, .int a), (3, .int b)] := hl
  refine lv_aload_n hx hb dX8_row_0 rfl (lv_at hl 0 rfl) ?_
  refine lv_iload_n hx hb dX8_row_1 rfl (lv_at hl 1 rfl) ?_
  have hPc := hP.sub (ws' := [(h0, .inr (8, [.ref x_tape, .ref x_reader, .ref x_current, .ref x_images, .ref x_kept, .ref x_slots, .ref x_diary, .ref x_base, .ref x_trial, .ref x_plan, .ref x_orders, .ref x_unanswered, .int 0, .int 0, .int (-1)]))]) [0] rfl
  have hDc := hD.sub (ws' := [(h0, .inr (8, [.ref x_tape, .ref x_reader, .ref x_current, .ref x_images, .ref x_kept, .ref x_slots, .ref x_diary, .ref x_base, .ref x_trial, .ref x_plan, .ref x_orders, .ref x_unanswered, .int 0, .int 0, .int (-1)]))]) [0] (by decide) rfl
  have hKc := hK.sub (tys' := []) [] rfl
  have hFc := va_free (wc := [(h0, .inr (8, [.ref x_tape, .ref x_reader, .ref x_current, .ref x_images, .ref x_kept, .ref x_slots, .ref x_diary, .ref x_base, .ref x_trial, .ref x_plan, .ref x_orders, .ref x_unanswered, .int 0, .int 0, .int (-1)]))]) hD hS hA [0] rfl
  refine va_calli (va_runV (As := [.int 3]) (rest := []) ⟨hx, hb, hml, hown, hts⟩ (c_isSlot3 l dC dI s.heap.size h0 x_tape x_reader x_current x_images x_kept x_slots x_diary x_base x_trial x_plan x_orders x_unanswered ) (cwV 1 hts (goodV w_1288 w_1289 w_1290 w_2 w_1291) rfl rfl rfl hdV_X8_isSlot ⟨Nat.le_of_ble_eq_true rfl, Nat.le_of_ble_eq_true rfl⟩) ⟨fun a U g mk q => by obtain ⟨q0, q1, qP, qK, qD⟩ := q; exact ⟨q0, q1, qP, va_K.moved (u := U) (U := U.calling g mk a) (Vm.Alike.refl U.vm) qK, qD⟩, va_recv hKc hPc (ci := 8) (q0 := 0) rfl rfl, fun U hU hW => ⟨rfl, by rw [hU], by rw [hU]; exact hPc, va_K.moved hW.alike hKc, hDc.weaken (fun _ _ _ _ => trivial)⟩⟩ rfl rfl hl.1 rfl (lv_room (Nat.le_of_ble_eq_true rfl)) dX8_row_2 ⟨Nat.le_of_ble_eq_true rfl, Nat.le_of_ble_eq_true rfl⟩) hS (fun q _ h => hFc q h) hFc (fun r_1 u t H1 locs ht hvm hw hB hz1 hk1 hS => ?_)
  obtain ⟨hP1, hK1, hD1⟩ := hB
  rw [ht] at hP1
  have hK1 := va_K.moved hvm.symm hK1
  obtain ⟨hP, hD⟩ := va_join (wr := [(x_slots, .inl (zk, 4, .inr (.inr (.inr (.inr (va_up (va_up (va_up (va_up (fun _ => none) 0 (some s0)) 1 (some s1)) 2 (some s2)) 3 (some s3))))))), (s3, .inr (5, [.ref y3, .int 0, .int 0, .int 0])), (y3, .inl (sk3, 60, .inr (.inl sf3)))]) (w1 := [(h0, .inr (8, [.ref x_tape, .ref x_reader, .ref x_current, .ref x_images, .ref x_kept, .ref x_slots, .ref x_diary, .ref x_base, .ref x_trial, .ref x_plan, .ref x_orders, .ref x_unanswered, .int 0, .int 0, .int (-1)]))]) hP hD [0] [1, 2, 3] rfl rfl (by decide) (by decide) hk1 hFc hP1 hD1
  clear hPc hDc hKc hFc
  generalize H1 = H at hP hS ⊢
  have hP : va_P (dC, dI) vwCl [(x_slots, .inl (zk, 4, .inr (.inr (.inr (.inr (va_up (va_up (va_up (va_up (fun _ => none) 0 (some s0)) 1 (some s1)) 2 (some s2)) 3 (some s3))))))), (s3, .inr (5, [.ref y3, .int 0, .int 0, .int 0])), (y3, .inl (sk3, 60, .inr (.inl sf3))), (h0, .inr (8, [.ref x_tape, .ref x_reader, .ref x_current, .ref x_images, .ref x_kept, .ref x_slots, .ref x_diary, .ref x_base, .ref x_trial, .ref x_plan, .ref x_orders, .ref x_unanswered, .int 0, .int 0, .int (-1)]))] H := hP
  have hD : va_D A [(x_slots, .inl (zk, 4, .inr (.inr (.inr (.inr (va_up (va_up (va_up (va_up (fun _ => none) 0 (some s0)) 1 (some s1)) 2 (some s2)) 3 (some s3))))))), (s3, .inr (5, [.ref y3, .int 0, .int 0, .int 0])), (y3, .inl (sk3, 60, .inr (.inl sf3))), (h0, .inr (8, [.ref x_tape, .ref x_reader, .ref x_current, .ref x_images, .ref x_kept, .ref x_slots, .ref x_diary, .ref x_base, .ref x_trial, .ref x_plan, .ref x_orders, .ref x_unanswered, .int 0, .int 0, .int (-1)]))] := hD
  have hw : r_1 = 1 := hw
  subst hw
  refine lv_if_eq (tgt := 23) hx hb dX8_row_5 (by decide) (fun c_2 => absurd c_2 (by decide)) (fun c_2 => ?_)
  refine lv_iload_n hx hb dX8_row_8 rfl (lv_at hl 2 rfl) ?_
  refine lv_if_lt (tgt := 23) hx hb dX8_row_9 (by decide) (fun c_3 => absurd (q_lt (a := a.toInt) (b := 0) rfl (by decide) c_3) (by omega)) (fun c_3 => ?_)
  have ec_3 := q_nlt (a := a.toInt) (b := 0) rfl (by decide) c_3
  refine lv_iload_n hx hb dX8_row_12 rfl (lv_at hl 2 rfl) ?_
  refine lv_iconst (v := 3) hx hb dX8_row_13 (by decide) ?_
  refine lv_icmp_gt (tgt := 23) hx hb dX8_row_14 (by decide) (fun c_4 => absurd (q_gt (a := a.toInt) (b := 3) rfl (by decide) c_4) (by omega)) (fun c_4 => ?_)
  have ec_4 := q_ngt (a := a.toInt) (b := 3) rfl (by decide) c_4
  refine lv_iload_n hx hb dX8_row_17 rfl (lv_at hl 3 rfl) ?_
  refine lv_bipush (v := 60) hx hb dX8_row_18 (by decide) ?_
  refine lv_icmp_le (tgt := 26) hx hb dX8_row_20 (by decide) (fun c_5 => ?_) (fun c_5 => absurd (q_nle (a := b.toInt) (b := 60) rfl (by decide) c_5) (by omega))
  have ec_5 := q_le (a := b.toInt) (b := 60) rfl (by decide) c_5
  refine lv_iload_n hx hb dX8_row_26 rfl (lv_at hl 3 rfl) ?_
  refine lv_if_ge (tgt := 33) hx hb dX8_row_27 (by decide) (fun c_6 => ?_) (fun c_6 => absurd (q_nge (a := b.toInt) (b := 0) rfl (by decide) c_6) (by omega))
  have ec_6 := q_ge (a := b.toInt) (b := 0) rfl (by decide) c_6
  refine lv_aload_n hx hb dX8_row_33 rfl (lv_at hl 0 rfl) ?_
  refine va_get (D := (dC, dI)) (ci := 8) (v := .ref x_slots) (C := RX8) (T := TX8) (N := 15) hx hb hts inA8 hown hK hP 3 rfl rfl 5 (by decide) (hts _ w_29) (fun _ h9 => h9) rfl dX8_row_34 ?_
  refine lv_iload_n hx hb dX8_row_37 rfl (lv_at hl 1 rfl) ?_
  refine va_aldq hx hb hK hP 0 0 rfl rfl (show vp_in 3 4 from (by unfold vp_in; decide)) dX8_row_38 ?_
  refine W.eq (g2 := F0 m 39 ls [.ref s3]) rfl ?_
  refine lv_iload_n hx hb dX8_row_39 rfl (lv_at hl 2 rfl) ?_
  refine lv_iload_n hx hb dX8_row_40 rfl (lv_at hl 3 rfl) ?_
  have hPc := hP.sub (ws' := [(s3, .inr (5, [.ref y3, .int 0, .int 0, .int 0])), (y3, .inl (sk3, 60, .inr (.inl sf3)))]) [1, 2] rfl
  have hDc := hD.sub (ws' := [(s3, .inr (5, [.ref y3, .int 0, .int 0, .int 0])), (y3, .inl (sk3, 60, .inr (.inl sf3)))]) [1, 2] (by decide) rfl
  have hKc := hK.sub (tys' := [(sk3, .long)]) [1] rfl
  have hFc := va_free (wc := [(s3, .inr (5, [.ref y3, .int 0, .int 0, .int 0])), (y3, .inl (sk3, 60, .inr (.inl sf3)))]) hD hS hA [1, 2] rfl
  refine va_callv (va_runV (As := [.int a, .int b]) (rest := []) ⟨hx, hb, hml, hown, hts⟩ (c_begin l dC dI H.size s3 y3 sk3 sf3 a b ) (cwV 2 hts (goodV w_1332 w_1333 w_1334 w_53 w_1335) rfl rfl rfl hdV_X5_begin ⟨Nat.le_of_ble_eq_true rfl, Nat.le_of_ble_eq_true rfl⟩) ⟨fun a U g mk q => by obtain ⟨q0, q1, qP, qK, qD⟩ := q; exact ⟨q0, q1, qP, va_K.moved (u := U) (U := U.calling g mk a) (Vm.Alike.refl U.vm) qK, qD⟩, va_recv hKc hPc (ci := 5) (q0 := 0) rfl rfl, fun U hU hW => ⟨rfl, by rw [hU], by rw [hU]; exact hPc, va_K.moved hW.alike hKc, hDc.weaken (fun _ _ _ _ => trivial)⟩⟩ rfl rfl hl.1 rfl (lv_room (Nat.le_of_ble_eq_true rfl)) dX8_row_41 ⟨Nat.le_of_ble_eq_true rfl, Nat.le_of_ble_eq_true rfl⟩) hS (fun q _ h => hFc q h) hFc (fun  u t H1 locs ht hvm hw hB hz1 hk1 hS => ?_)
  obtain ⟨hP, hD⟩ := va_join (wr := [(x_slots, .inl (zk, 4, .inr (.inr (.inr (.inr (va_up (va_up (va_up (va_up (fun _ => none) 0 (some s0)) 1 (some s1)) 2 (some s2)) 3 (some s3))))))), (h0, .inr (8, [.ref x_tape, .ref x_reader, .ref x_current, .ref x_images, .ref x_kept, .ref x_slots, .ref x_diary, .ref x_base, .ref x_trial, .ref x_plan, .ref x_orders, .ref x_unanswered, .int 0, .int 0, .int (-1)]))]) (w1 := []) hP hD [1, 2] [0, 3] rfl rfl (by decide) (by decide) hk1 hFc nilP nilD
  clear hPc hDc hKc hFc
  generalize H1 = H at hP hS ⊢
  have hP : va_P (dC, dI) vwCl [(x_slots, .inl (zk, 4, .inr (.inr (.inr (.inr (va_up (va_up (va_up (va_up (fun _ => none) 0 (some s0)) 1 (some s1)) 2 (some s2)) 3 (some s3))))))), (h0, .inr (8, [.ref x_tape, .ref x_reader, .ref x_current, .ref x_images, .ref x_kept, .ref x_slots, .ref x_diary, .ref x_base, .ref x_trial, .ref x_plan, .ref x_orders, .ref x_unanswered, .int 0, .int 0, .int (-1)]))] H := hP
  have hD : va_D A [(x_slots, .inl (zk, 4, .inr (.inr (.inr (.inr (va_up (va_up (va_up (va_up (fun _ => none) 0 (some s0)) 1 (some s1)) 2 (some s2)) 3 (some s3))))))), (h0, .inr (8, [.ref x_tape, .ref x_reader, .ref x_current, .ref x_images, .ref x_kept, .ref x_slots, .ref x_diary, .ref x_base, .ref x_trial, .ref x_plan, .ref x_orders, .ref x_unanswered, .int 0, .int 0, .int (-1)]))] := hD
  refine lv_iconst (v := 0) hx hb dX8_row_44 (by decide) ?_
  exact W.iret (v := 0) hx hb hr (fun t ht hW => ⟨⟨0, (), rfl, rfl, trivial⟩, hS.F ht⟩) hS.2.2 dX8_row_45
set_option maxHeartbeats 4000000 in
set_option maxRecDepth 100000 in
theorem x_rowB3 (l : Launch) (dC : Nat → ClassId) (dI : Nat → Nat → Nat) (sz : Nat) (h0 : Nat) (x_tape : Nat) (x_reader : Nat) (x_current : Nat) (x_images : Nat) (x_kept : Nat) (x_slots : Nat) (x_diary : Nat) (x_base : Nat) (x_trial : Nat) (x_plan : Nat) (x_orders : Nat) (x_unanswered : Nat) (a : Int32) (b : Int32) (h1 : 0 ≤ a.toInt) (h2 : a.toInt ≤ 3) (h3 : b.toInt < 0) : Met l yX8_row (.code yX8_row cX8_row 4 (some .int) :: ALLW) ({ frames := 1, cells := 0, slots := 0, locals := 21 }) (va_Pc [.ref h0, .int 3, .int a, .int b] (fun U => U.heap.size = sz ∧ va_P (dC, dI) vwCl [(h0, .inr (8, [.ref x_tape, .ref x_reader, .ref x_current, .ref x_images, .ref x_kept, .ref x_slots, .ref x_diary, .ref x_base, .ref x_trial, .ref x_plan, .ref x_orders, .ref x_unanswered, .int 0, .int 0, .int (-1)]))] U.heap ∧ va_K (dC, dI) vwCl [] U ∧ va_D (fun _ => True) [(h0, .inr (8, [.ref x_tape, .ref x_reader, .ref x_current, .ref x_images, .ref x_kept, .ref x_slots, .ref x_diary, .ref x_base, .ref x_trial, .ref x_plan, .ref x_orders, .ref x_unanswered, .int 0, .int 0, .int (-1)]))])) (va_Qi (fun (r : Int32) (_ : Unit) => r = (-3)) (fun (_ : Unit) (_ : State) => True) (va_A [(h0, .inr (8, [.ref x_tape, .ref x_reader, .ref x_current, .ref x_images, .ref x_kept, .ref x_slots, .ref x_diary, .ref x_base, .ref x_trial, .ref x_plan, .ref x_orders, .ref x_unanswered, .int 0, .int 0, .int (-1)]))] sz)) 0 0 (va_A [(h0, .inr (8, [.ref x_tape, .ref x_reader, .ref x_current, .ref x_images, .ref x_kept, .ref x_slots, .ref x_diary, .ref x_base, .ref x_trial, .ref x_plan, .ref x_orders, .ref x_unanswered, .int 0, .int 0, .int (-1)]))] sz) := by
  refine Met.ofW (cc := cX8_row) (maxL := 4) (ret := (some .int)) (by decide) rfl ?_
  intro p e s m args below meth c s₁ B hml hv
  obtain ⟨rfl, hsz, hP, hK, hD0⟩ := hv
  have hx := B.exec
  have hb := B.bytes
  have hr := B.returns
  have hts0 := atoms_spec (ws := (.code yX8_row cX8_row 4 (some .int) :: ALLW)) B.pre
  have hts := fun (w : Cond) (h : w ∈ ALLW) => hts0 w (List.mem_cons_of_mem _ h)
  have hown : s.vm.findClass RX8 = some m.cls := findClass_of_methodNamed B.named
  have hlocks := B.notSynchronized
  subst hsz
  have hD := hD0.self (sz := s.heap.size)
  generalize hAe : va_A [(h0, .inr (8, [.ref x_tape, .ref x_reader, .ref x_current, .ref x_images, .ref x_kept, .ref x_slots, .ref x_diary, .ref x_base, .ref x_trial, .ref x_plan, .ref x_orders, .ref x_unanswered, .int 0, .int 0, .int (-1)]))] s.heap.size = A at hD ⊢
  have hA : ∀ q : Nat, s.heap.size ≤ q → A q := fun q h => by rw [← hAe]; exact Or.inr h
  have hS : va_S A s.heap s.heap [] := va_S.rf
  have hP : va_P (dC, dI) vwCl [(h0, .inr (8, [.ref x_tape, .ref x_reader, .ref x_current, .ref x_images, .ref x_kept, .ref x_slots, .ref x_diary, .ref x_base, .ref x_trial, .ref x_plan, .ref x_orders, .ref x_unanswered, .int 0, .int 0, .int (-1)]))] s.heap := hP
  have hl := lv_entry ([.ref h0, .int 3, .int a, .int b]) (n := 4) (Nat.le_of_ble_eq_true rfl)
  rw [lg_entry_eq]
  generalize (lg_sl ([.ref h0, .int 3, .int a, .int b]) ++ List.replicate (4 - (lg_sl ([.ref h0, .int 3, .int a, .int b])).length) Slot.unset).toArray = ls at hl ⊢
  have hl : lv_has ls 4 [(0, .ref h0), (1, .int 3), (2, .int a), (3, .int b)] := hl
  refine lv_aload_n hx hb dX8_row_0 rfl (lv_at hl 0 rfl) ?_
  refine lv_iload_n hx hb dX8_row_1 rfl (lv_at hl 1 rfl) ?_
  have hPc := hP.sub (ws' := [(h0, .inr (8, [.ref x_tape, .ref x_reader, .ref x_current, .ref x_images, .ref x_kept, .ref x_slots, .ref x_diary, .ref x_base, .ref x_trial, .ref x_plan, .ref x_orders, .ref x_unanswered, .int 0, .int 0, .int (-1)]))]) [0] rfl
  have hDc := hD.sub (ws' := [(h0, .inr (8, [.ref x_tape, .ref x_reader, .ref x_current, .ref x_images, .ref x_kept, .ref x_slots, .ref x_diary, .ref x_base, .ref x_trial, .ref x_plan, .ref x_orders, .ref x_unanswered, .int 0, .int 0, .int (-1)]))]) [0] (by decide) rfl
  have hKc := hK.sub (tys' := []) [] rfl
  have hFc := va_free (wc := [(h0, .inr (8, [.ref x_tape, .ref x_reader, .ref x_current, .ref x_images, .ref x_kept, .ref x_slots, .ref x_diary, .ref x_base, .ref x_trial, .ref x_plan, .ref x_orders, .ref x_unanswered, .int 0, .int 0, .int (-1)]))]) hD hS hA [0] rfl
  refine va_calli (va_runV (As := [.int 3]) (rest := []) ⟨hx, hb, hml, hown, hts⟩ (c_isSlot3 l dC dI s.heap.size h0 x_tape x_reader x_current x_images x_kept x_slots x_diary x_base x_trial x_plan x_orders x_unanswered ) (cwV 1 hts (goodV w_1288 w_1289 w_1290 w_2 w_1291) rfl rfl rfl hdV_X8_isSlot ⟨Nat.le_of_ble_eq_true rfl, Nat.le_of_ble_eq_true rfl⟩) ⟨fun a U g mk q => by obtain ⟨q0, q1, qP, qK, qD⟩ := q; exact ⟨q0, q1, qP, va_K.moved (u := U) (U := U.calling g mk a) (Vm.Alike.refl U.vm) qK, qD⟩, va_recv hKc hPc (ci := 8) (q0 := 0) rfl rfl, fun U hU hW => ⟨rfl, by rw [hU], by rw [hU]; exact hPc, va_K.moved hW.alike hKc, hDc.weaken (fun _ _ _ _ => trivial)⟩⟩ rfl rfl hl.1 rfl (lv_room (Nat.le_of_ble_eq_true rfl)) dX8_row_2 ⟨Nat.le_of_ble_eq_true rfl, Nat.le_of_ble_eq_true rfl⟩) hS (fun q _ h => hFc q h) hFc (fun r_1 u t H1 locs ht hvm hw hB hz1 hk1 hS => ?_)
  obtain ⟨hP1, hK1, hD1⟩ := hB
  rw [ht] at hP1
  have hK1 := va_K.moved hvm.symm hK1
  obtain ⟨hP, hD⟩ := va_join (wr := []) (w1 := [(h0, .inr (8, [.ref x_tape, .ref x_reader, .ref x_current, .ref x_images, .ref x_kept, .ref x_slots, .ref x_diary, .ref x_base, .ref x_trial, .ref x_plan, .ref x_orders, .ref x_unanswered, .int 0, .int 0, .int (-1)]))]) hP hD [0] [] rfl rfl (by decide) (by decide) hk1 hFc hP1 hD1
  clear hPc hDc hKc hFc
  generalize H1 = H at hP hS ⊢
  have hP : va_P (dC, dI) vwCl [(h0, .inr (8, [.ref x_tape, .ref x_reader, .ref x_current, .ref x_images, .ref x_kept, .ref x_slots, .ref x_diary, .ref x_base, .ref x_trial, .ref x_plan, .ref x_orders, .ref x_unanswered, .int 0, .int 0, .int (-1)]))] H := hP
  have hD : va_D A [(h0, .inr (8, [.ref x_tape, .ref x_reader, .ref x_current, .ref x_images, .ref x_kept, .ref x_slots, .ref x_diary, .ref x_base, .ref x_trial, .ref x_plan, .ref x_orders, .ref x_unanswered, .int 0, .int 0, .int (-1)]))] := hD
  have hw : r_1 = 1 := hw
  subst hw
  refine lv_if_eq (tgt := 23) hx hb dX8_row_5 (by decide) (fun c_2 => absurd c_2 (by decide)) (fun c_2 => ?_)
  refine lv_iload_n hx hb dX8_row_8 rfl (lv_at hl 2 rfl) ?_
  refine lv_if_lt (tgt := 23) hx hb dX8_row_9 (by decide) (fun c_3 => absurd (q_lt (a := a.toInt) (b := 0) rfl (by decide) c_3) (by omega)) (fun c_3 => ?_)
  have ec_3 := q_nlt (a := a.toInt) (b := 0) rfl (by decide) c_3
  refine lv_iload_n hx hb dX8_row_12 rfl (lv_at hl 2 rfl) ?_
  refine lv_iconst (v := 3) hx hb dX8_row_13 (by decide) ?_
  refine lv_icmp_gt (tgt := 23) hx hb dX8_row_14 (by decide) (fun c_4 => absurd (q_gt (a := a.toInt) (b := 3) rfl (by decide) c_4) (by omega)) (fun c_4 => ?_)
  have ec_4 := q_ngt (a := a.toInt) (b := 3) rfl (by decide) c_4
  refine lv_iload_n hx hb dX8_row_17 rfl (lv_at hl 3 rfl) ?_
  refine lv_bipush (v := 60) hx hb dX8_row_18 (by decide) ?_
  refine lv_icmp_le (tgt := 26) hx hb dX8_row_20 (by decide) (fun c_5 => ?_) (fun c_5 => absurd (q_nle (a := b.toInt) (b := 60) rfl (by decide) c_5) (by omega))
  have ec_5 := q_le (a := b.toInt) (b := 60) rfl (by decide) c_5
  refine lv_iload_n hx hb dX8_row_26 rfl (lv_at hl 3 rfl) ?_
  refine lv_if_ge (tgt := 33) hx hb dX8_row_27 (by decide) (fun c_6 => absurd (q_ge (a := b.toInt) (b := 0) rfl (by decide) c_6) (by omega)) (fun c_6 => ?_)
  have ec_6 := q_nge (a := b.toInt) (b := 0) rfl (by decide) c_6
  refine lv_bipush (v := (-3)) hx hb dX8_row_30 (by decide) ?_
  exact W.iret (v := (-3)) hx hb hr (fun t ht hW => ⟨⟨(-3), (), rfl, rfl, trivial⟩, hS.F ht⟩) hS.2.2 dX8_row_32
set_option maxHeartbeats 4000000 in
set_option maxRecDepth 100000 in
theorem x_rowN3 (l : Launch) (dC : Nat → ClassId) (dI : Nat → Nat → Nat) (sz : Nat) (h0 : Nat) (x_tape : Nat) (x_reader : Nat) (x_current : Nat) (x_images : Nat) (x_kept : Nat) (x_slots : Nat) (x_diary : Nat) (x_base : Nat) (x_trial : Nat) (x_plan : Nat) (x_orders : Nat) (x_unanswered : Nat) (a : Int32) (b : Int32) (h1 : a.toInt < 0 ∨ 3 < a.toInt ∨ 60 < b.toInt) : Met l yX8_row (.code yX8_row cX8_row 4 (some .int) :: ALLW) ({ frames := 1, cells := 0, slots := 0, locals := 21 }) (va_Pc [.ref h0, .int 3, .int a, .int b] (fun U => U.heap.size = sz ∧ va_P (dC, dI) vwCl [(h0, .inr (8, [.ref x_tape, .ref x_reader, .ref x_current, .ref x_images, .ref x_kept, .ref x_slots, .ref x_diary, .ref x_base, .ref x_trial, .ref x_plan, .ref x_orders, .ref x_unanswered, .int 0, .int 0, .int (-1)]))] U.heap ∧ va_K (dC, dI) vwCl [] U ∧ va_D (fun _ => True) [(h0, .inr (8, [.ref x_tape, .ref x_reader, .ref x_current, .ref x_images, .ref x_kept, .ref x_slots, .ref x_diary, .ref x_base, .ref x_trial, .ref x_plan, .ref x_orders, .ref x_unanswered, .int 0, .int 0, .int (-1)]))])) (va_Qi (fun (r : Int32) (_ : Unit) => r = (-2)) (fun (_ : Unit) (_ : State) => True) (va_A [(h0, .inr (8, [.ref x_tape, .ref x_reader, .ref x_current, .ref x_images, .ref x_kept, .ref x_slots, .ref x_diary, .ref x_base, .ref x_trial, .ref x_plan, .ref x_orders, .ref x_unanswered, .int 0, .int 0, .int (-1)]))] sz)) 0 0 (va_A [(h0, .inr (8, [.ref x_tape, .ref x_reader, .ref x_current, .ref x_images, .ref x_kept, .ref x_slots, .ref x_diary, .ref x_base, .ref x_trial, .ref x_plan, .ref x_orders, .ref x_unanswered, .int 0, .int 0, .int (-1)]))] sz) := by
  refine Met.ofW (cc := cX8_row) (maxL := 4) (ret := (some .int)) (by decide) rfl ?_
  intro p e s m args below meth c s₁ B hml hv
  obtain ⟨rfl, hsz, hP, hK, hD0⟩ := hv
  have hx := B.exec
  have hb := B.bytes
  have hr := B.returns
  have hts0 := atoms_spec (ws := (.code yX8_row cX8_row 4 (some .int) :: ALLW)) B.pre
  have hts := fun (w : Cond) (h : w ∈ ALLW) => hts0 w (List.mem_cons_of_mem _ h)
  have hown : s.vm.findClass RX8 = some m.cls := findClass_of_methodNamed B.named
  have hlocks := B.notSynchronized
  subst hsz
  have hD := hD0.self (sz := s.heap.size)
  generalize hAe : va_A [(h0, .inr (8, [.ref x_tape, .ref x_reader, .ref x_current, .ref x_images, .ref x_kept, .ref x_slots, .ref x_diary, .ref x_base, .ref x_trial, .ref x_plan, .ref x_orders, .ref x_unanswered, .int 0, .int 0, .int (-1)]))] s.heap.size = A at hD ⊢
  have hA : ∀ q : Nat, s.heap.size ≤ q → A q := fun q h => by rw [← hAe]; exact Or.inr h
  have hS : va_S A s.heap s.heap [] := va_S.rf
  have hP : va_P (dC, dI) vwCl [(h0, .inr (8, [.ref x_tape, .ref x_reader, .ref x_current, .ref x_images, .ref x_kept, .ref x_slots, .ref x_diary, .ref x_base, .ref x_trial, .ref x_plan, .ref x_orders, .ref x_unanswered, .int 0, .int 0, .int (-1)]))] s.heap := hP
  have hl := lv_entry ([.ref h0, .int 3, .int a, .int b]) (n := 4) (Nat.le_of_ble_eq_true rfl)
  rw [lg_entry_eq]
  generalize (lg_sl ([.ref h0, .int 3, .int a, .int b]) ++ List.replicate (4 - (lg_sl ([.ref h0, .int 3, .int a, .int b])).length) Slot.unset).toArray = ls at hl ⊢
  have hl : lv_has ls 4 [(0, .ref h0), (1, .int 3), (2, .int a), (3, .int b)] := hl
  refine lv_aload_n hx hb dX8_row_0 rfl (lv_at hl 0 rfl) ?_
  refine lv_iload_n hx hb dX8_row_1 rfl (lv_at hl 1 rfl) ?_
  have hPc := hP.sub (ws' := [(h0, .inr (8, [.ref x_tape, .ref x_reader, .ref x_current, .ref x_images, .ref x_kept, .ref x_slots, .ref x_diary, .ref x_base, .ref x_trial, .ref x_plan, .ref x_orders, .ref x_unanswered, .int 0, .int 0, .int (-1)]))]) [0] rfl
  have hDc := hD.sub (ws' := [(h0, .inr (8, [.ref x_tape, .ref x_reader, .ref x_current, .ref x_images, .ref x_kept, .ref x_slots, .ref x_diary, .ref x_base, .ref x_trial, .ref x_plan, .ref x_orders, .ref x_unanswered, .int 0, .int 0, .int (-1)]))]) [0] (by decide) rfl
  have hKc := hK.sub (tys' := []) [] rfl
  have hFc := va_free (wc := [(h0, .inr (8, [.ref x_tape, .ref x_reader, .ref x_current, .ref x_images, .ref x_kept, .ref x_slots, .ref x_diary, .ref x_base, .ref x_trial, .ref x_plan, .ref x_orders, .ref x_unanswered, .int 0, .int 0, .int (-1)]))]) hD hS hA [0] rfl
  refine va_calli (va_runV (As := [.int 3]) (rest := []) ⟨hx, hb, hml, hown, hts⟩ (c_isSlot3 l dC dI s.heap.size h0 x_tape x_reader x_current x_images x_kept x_slots x_diary x_base x_trial x_plan x_orders x_unanswered ) (cwV 1 hts (goodV w_1288 w_1289 w_1290 w_2 w_1291) rfl rfl rfl hdV_X8_isSlot ⟨Nat.le_of_ble_eq_true rfl, Nat.le_of_ble_eq_true rfl⟩) ⟨fun a U g mk q => by obtain ⟨q0, q1, qP, qK, qD⟩ := q; exact ⟨q0, q1, qP, va_K.moved (u := U) (U := U.calling g mk a) (Vm.Alike.refl U.vm) qK, qD⟩, va_recv hKc hPc (ci := 8) (q0 := 0) rfl rfl, fun U hU hW => ⟨rfl, by rw [hU], by rw [hU]; exact hPc, va_K.moved hW.alike hKc, hDc.weaken (fun _ _ _ _ => trivial)⟩⟩ rfl rfl hl.1 rfl (lv_room (Nat.le_of_ble_eq_true rfl)) dX8_row_2 ⟨Nat.le_of_ble_eq_true rfl, Nat.le_of_ble_eq_true rfl⟩) hS (fun q _ h => hFc q h) hFc (fun r_1 u t H1 locs ht hvm hw hB hz1 hk1 hS => ?_)
  obtain ⟨hP1, hK1, hD1⟩ := hB
  rw [ht] at hP1
  have hK1 := va_K.moved hvm.symm hK1
  obtain ⟨hP, hD⟩ := va_join (wr := []) (w1 := [(h0, .inr (8, [.ref x_tape, .ref x_reader, .ref x_current, .ref x_images, .ref x_kept, .ref x_slots, .ref x_diary, .ref x_base, .ref x_trial, .ref x_plan, .ref x_orders, .ref x_unanswered, .int 0, .int 0, .int (-1)]))]) hP hD [0] [] rfl rfl (by decide) (by decide) hk1 hFc hP1 hD1
  clear hPc hDc hKc hFc
  generalize H1 = H at hP hS ⊢
  have hP : va_P (dC, dI) vwCl [(h0, .inr (8, [.ref x_tape, .ref x_reader, .ref x_current, .ref x_images, .ref x_kept, .ref x_slots, .ref x_diary, .ref x_base, .ref x_trial, .ref x_plan, .ref x_orders, .ref x_unanswered, .int 0, .int 0, .int (-1)]))] H := hP
  have hD : va_D A [(h0, .inr (8, [.ref x_tape, .ref x_reader, .ref x_current, .ref x_images, .ref x_kept, .ref x_slots, .ref x_diary, .ref x_base, .ref x_trial, .ref x_plan, .ref x_orders, .ref x_unanswered, .int 0, .int 0, .int (-1)]))] := hD
  have hw : r_1 = 1 := hw
  subst hw
  refine lv_if_eq (tgt := 23) hx hb dX8_row_5 (by decide) (fun c_2 => absurd c_2 (by decide)) (fun c_2 => ?_)
  refine lv_iload_n hx hb dX8_row_8 rfl (lv_at hl 2 rfl) ?_
  refine lv_if_lt (tgt := 23) hx hb dX8_row_9 (by decide) (fun c_3 => ?_) (fun c_3 => ?_)
  · have ec_3 := q_lt (a := a.toInt) (b := 0) rfl (by decide) c_3
    refine lv_bipush (v := (-2)) hx hb dX8_row_23 (by decide) ?_
    exact W.iret (v := (-2)) hx hb hr (fun t ht hW => ⟨⟨(-2), (), rfl, rfl, trivial⟩, hS.F ht⟩) hS.2.2 dX8_row_25
  · have ec_3 := q_nlt (a := a.toInt) (b := 0) rfl (by decide) c_3
    refine lv_iload_n hx hb dX8_row_12 rfl (lv_at hl 2 rfl) ?_
    refine lv_iconst (v := 3) hx hb dX8_row_13 (by decide) ?_
    refine lv_icmp_gt (tgt := 23) hx hb dX8_row_14 (by decide) (fun c_4 => ?_) (fun c_4 => ?_)
    · have ec_4 := q_gt (a := a.toInt) (b := 3) rfl (by decide) c_4
      refine lv_bipush (v := (-2)) hx hb dX8_row_23 (by decide) ?_
      exact W.iret (v := (-2)) hx hb hr (fun t ht hW => ⟨⟨(-2), (), rfl, rfl, trivial⟩, hS.F ht⟩) hS.2.2 dX8_row_25
    · have ec_4 := q_ngt (a := a.toInt) (b := 3) rfl (by decide) c_4
      refine lv_iload_n hx hb dX8_row_17 rfl (lv_at hl 3 rfl) ?_
      refine lv_bipush (v := 60) hx hb dX8_row_18 (by decide) ?_
      refine lv_icmp_le (tgt := 26) hx hb dX8_row_20 (by decide) (fun c_5 => absurd (q_le (a := b.toInt) (b := 60) rfl (by decide) c_5) (by omega)) (fun c_5 => ?_)
      have ec_5 := q_nle (a := b.toInt) (b := 60) rfl (by decide) c_5
      refine lv_bipush (v := (-2)) hx hb dX8_row_23 (by decide) ?_
      exact W.iret (v := (-2)) hx hb hr (fun t ht hW => ⟨⟨(-2), (), rfl, rfl, trivial⟩, hS.F ht⟩) hS.2.2 dX8_row_25
set_option maxHeartbeats 4000000 in
set_option maxRecDepth 100000 in
theorem x_write3 (l : Launch) (dC : Nat → ClassId) (dI : Nat → Nat → Nat) (sz : Nat) (h0 : Nat) (x_tape : Nat) (x_reader : Nat) (x_current : Nat) (x_images : Nat) (x_kept : Nat) (x_slots : Nat) (x_diary : Nat) (x_base : Nat) (x_trial : Nat) (x_plan : Nat) (x_orders : Nat) (x_unanswered : Nat) (s0 : Nat) (s1 : Nat) (s2 : Nat) (s3 : Nat) (y0 : Nat) (y1 : Nat) (y2 : Nat) (y3 : Nat) (zk : ClassId) (a : Int32) (b : Int64)  : Met l yX8_write (.code yX8_write cX8_write 6 (some .int) :: ALLW) ({ frames := 1, cells := 0, slots := 0, locals := 21 }) (va_Pc [.ref h0, .int 3, .int a, .long b] (fun U => U.heap.size = sz ∧ va_P (dC, dI) vwCl [(h0, .inr (8, [.ref x_tape, .ref x_reader, .ref x_current, .ref x_images, .ref x_kept, .ref x_slots, .ref x_diary, .ref x_base, .ref x_trial, .ref x_plan, .ref x_orders, .ref x_unanswered, .int 0, .int 0, .int (-1)])), (x_slots, .inl (zk, 4, .inr (.inr (.inr (.inr (va_up (va_up (va_up (va_up (fun _ => none) 0 (some s0)) 1 (some s1)) 2 (some s2)) 3 (some s3))))))), (s3, .inr (5, [.ref y3, .int 0, .int 0, .int 0]))] U.heap ∧ va_K (dC, dI) vwCl [(zk, .object RX5)] U ∧ va_D (fun _ => True) [(h0, .inr (8, [.ref x_tape, .ref x_reader, .ref x_current, .ref x_images, .ref x_kept, .ref x_slots, .ref x_diary, .ref x_base, .ref x_trial, .ref x_plan, .ref x_orders, .ref x_unanswered, .int 0, .int 0, .int (-1)])), (x_slots, .inl (zk, 4, .inr (.inr (.inr (.inr (va_up (va_up (va_up (va_up (fun _ => none) 0 (some s0)) 1 (some s1)) 2 (some s2)) 3 (some s3))))))), (s3, .inr (5, [.ref y3, .int 0, .int 0, .int 0]))])) (va_Qi (fun (r : Int32) (_ : Unit) => r = (-6)) (fun (_ : Unit) (_ : State) => True) (va_A [(h0, .inr (8, [.ref x_tape, .ref x_reader, .ref x_current, .ref x_images, .ref x_kept, .ref x_slots, .ref x_diary, .ref x_base, .ref x_trial, .ref x_plan, .ref x_orders, .ref x_unanswered, .int 0, .int 0, .int (-1)])), (x_slots, .inl (zk, 4, .inr (.inr (.inr (.inr (va_up (va_up (va_up (va_up (fun _ => none) 0 (some s0)) 1 (some s1)) 2 (some s2)) 3 (some s3))))))), (s3, .inr (5, [.ref y3, .int 0, .int 0, .int 0]))] sz)) 0 0 (va_A [(h0, .inr (8, [.ref x_tape, .ref x_reader, .ref x_current, .ref x_images, .ref x_kept, .ref x_slots, .ref x_diary, .ref x_base, .ref x_trial, .ref x_plan, .ref x_orders, .ref x_unanswered, .int 0, .int 0, .int (-1)])), (x_slots, .inl (zk, 4, .inr (.inr (.inr (.inr (va_up (va_up (va_up (va_up (fun _ => none) 0 (some s0)) 1 (some s1)) 2 (some s2)) 3 (some s3))))))), (s3, .inr (5, [.ref y3, .int 0, .int 0, .int 0]))] sz) := by
  refine Met.ofW (cc := cX8_write) (maxL := 6) (ret := (some .int)) (by decide) rfl ?_
  intro p e s m args below meth c s₁ B hml hv
  obtain ⟨rfl, hsz, hP, hK, hD0⟩ := hv
  have hx := B.exec
  have hb := B.bytes
  have hr := B.returns
  have hts0 := atoms_spec (ws := (.code yX8_write cX8_write 6 (some .int) :: ALLW)) B.pre
  have hts := fun (w : Cond) (h : w ∈ ALLW) => hts0 w (List.mem_cons_of_mem _ h)
  have hown : s.vm.findClass RX8 = some m.cls := findClass_of_methodNamed B.named
  have hlocks := B.notSynchronized
  subst hsz
  have hD := hD0.self (sz := s.heap.size)
  generalize hAe : va_A [(h0, .inr (8, [.ref x_tape, .ref x_reader, .ref x_current, .ref x_images, .ref x_kept, .ref x_slots, .ref x_diary, .ref x_base, .ref x_trial, .ref x_plan, .ref x_orders, .ref x_unanswered, .int 0, .int 0, .int (-1)])), (x_slots, .inl (zk, 4, .inr (.inr (.inr (.inr (va_up (va_up (va_up (va_up (fun _ => none) 0 (some s0)) 1 (some s1)) 2 (some s2)) 3 (some s3))))))), (s3, .inr (5, [.ref y3, .int 0, .int 0, .int 0]))] s.heap.size = A at hD ⊢
  have hA : ∀ q : Nat, s.heap.size ≤ q → A q := fun q h => by rw [← hAe]; exact Or.inr h
  have hS : va_S A s.heap s.heap [] := va_S.rf
  have hP : va_P (dC, dI) vwCl [(h0, .inr (8, [.ref x_tape, .ref x_reader, .ref x_current, .ref x_images, .ref x_kept, .ref x_slots, .ref x_diary, .ref x_base, .ref x_trial, .ref x_plan, .ref x_orders, .ref x_unanswered, .int 0, .int 0, .int (-1)])), (x_slots, .inl (zk, 4, .inr (.inr (.inr (.inr (va_up (va_up (va_up (va_up (fun _ => none) 0 (some s0)) 1 (some s1)) 2 (some s2)) 3 (some s3))))))), (s3, .inr (5, [.ref y3, .int 0, .int 0, .int 0]))] s.heap := hP
  have hl := lv_entry ([.ref h0, .int 3, .int a, .long b]) (n := 6) (Nat.le_of_ble_eq_true rfl)
  rw [lg_entry_eq]
  generalize (lg_sl ([.ref h0, .int 3, .int a, .long b]) ++ List.replicate (6 - (lg_sl ([.ref h0, .int 3, .int a, .long b])).length) Slot.unset).toArray = ls at hl ⊢
  have hl : lv_has ls 6 [(0, .ref h0), (1, .int 3), (2, .int a), (3, .long b)] := hl
  refine lv_aload_n hx hb dX8_write_0 rfl (lv_at hl 0 rfl) ?_
  refine lv_iload_n hx hb dX8_write_1 rfl (lv_at hl 1 rfl) ?_
  have hPc := hP.sub (ws' := [(h0, .inr (8, [.ref x_tape, .ref x_reader, .ref x_current, .ref x_images, .ref x_kept, .ref x_slots, .ref x_diary, .ref x_base, .ref x_trial, .ref x_plan, .ref x_orders, .ref x_unanswered, .int 0, .int 0, .int (-1)]))]) [0] rfl
  have hDc := hD.sub (ws' := [(h0, .inr (8, [.ref x_tape, .ref x_reader, .ref x_current, .ref x_images, .ref x_kept, .ref x_slots, .ref x_diary, .ref x_base, .ref x_trial, .ref x_plan, .ref x_orders, .ref x_unanswered, .int 0, .int 0, .int (-1)]))]) [0] (by decide) rfl
  have hKc := hK.sub (tys' := []) [] rfl
  have hFc := va_free (wc := [(h0, .inr (8, [.ref x_tape, .ref x_reader, .ref x_current, .ref x_images, .ref x_kept, .ref x_slots, .ref x_diary, .ref x_base, .ref x_trial, .ref x_plan, .ref x_orders, .ref x_unanswered, .int 0, .int 0, .int (-1)]))]) hD hS hA [0] rfl
  refine va_calli (va_runV (As := [.int 3]) (rest := []) ⟨hx, hb, hml, hown, hts⟩ (c_isSlot3 l dC dI s.heap.size h0 x_tape x_reader x_current x_images x_kept x_slots x_diary x_base x_trial x_plan x_orders x_unanswered ) (cwV 1 hts (goodV w_1288 w_1289 w_1290 w_2 w_1291) rfl rfl rfl hdV_X8_isSlot ⟨Nat.le_of_ble_eq_true rfl, Nat.le_of_ble_eq_true rfl⟩) ⟨fun a U g mk q => by obtain ⟨q0, q1, qP, qK, qD⟩ := q; exact ⟨q0, q1, qP, va_K.moved (u := U) (U := U.calling g mk a) (Vm.Alike.refl U.vm) qK, qD⟩, va_recv hKc hPc (ci := 8) (q0 := 0) rfl rfl, fun U hU hW => ⟨rfl, by rw [hU], by rw [hU]; exact hPc, va_K.moved hW.alike hKc, hDc.weaken (fun _ _ _ _ => trivial)⟩⟩ rfl rfl hl.1 rfl (lv_room (Nat.le_of_ble_eq_true rfl)) dX8_write_2 ⟨Nat.le_of_ble_eq_true rfl, Nat.le_of_ble_eq_true rfl⟩) hS (fun q _ h => hFc q h) hFc (fun r_1 u t H1 locs ht hvm hw hB hz1 hk1 hS => ?_)
  obtain ⟨hP1, hK1, hD1⟩ := hB
  rw [ht] at hP1
  have hK1 := va_K.moved hvm.symm hK1
  obtain ⟨hP, hD⟩ := va_join (wr := [(x_slots, .inl (zk, 4, .inr (.inr (.inr (.inr (va_up (va_up (va_up (va_up (fun _ => none) 0 (some s0)) 1 (some s1)) 2 (some s2)) 3 (some s3))))))), (s3, .inr (5, [.ref y3, .int 0, .int 0, .int 0]))]) (w1 := [(h0, .inr (8, [.ref x_tape, .ref x_reader, .ref x_current, .ref x_images, .ref x_kept, .ref x_slots, .ref x_diary, .ref x_base, .ref x_trial, .ref x_plan, .ref x_orders, .ref x_unanswered, .int 0, .int 0, .int (-1)]))]) hP hD [0] [1, 2] rfl rfl (by decide) (by decide) hk1 hFc hP1 hD1
  clear hPc hDc hKc hFc
  generalize H1 = H at hP hS ⊢
  have hP : va_P (dC, dI) vwCl [(x_slots, .inl (zk, 4, .inr (.inr (.inr (.inr (va_up (va_up (va_up (va_up (fun _ => none) 0 (some s0)) 1 (some s1)) 2 (some s2)) 3 (some s3))))))), (s3, .inr (5, [.ref y3, .int 0, .int 0, .int 0])), (h0, .inr (8, [.ref x_tape, .ref x_reader, .ref x_current, .ref x_images, .ref x_kept, .ref x_slots, .ref x_diary, .ref x_base, .ref x_trial, .ref x_plan, .ref x_orders, .ref x_unanswered, .int 0, .int 0, .int (-1)]))] H := hP
  have hD : va_D A [(x_slots, .inl (zk, 4, .inr (.inr (.inr (.inr (va_up (va_up (va_up (va_up (fun _ => none) 0 (some s0)) 1 (some s1)) 2 (some s2)) 3 (some s3))))))), (s3, .inr (5, [.ref y3, .int 0, .int 0, .int 0])), (h0, .inr (8, [.ref x_tape, .ref x_reader, .ref x_current, .ref x_images, .ref x_kept, .ref x_slots, .ref x_diary, .ref x_base, .ref x_trial, .ref x_plan, .ref x_orders, .ref x_unanswered, .int 0, .int 0, .int (-1)]))] := hD
  have hw : r_1 = 1 := hw
  subst hw
  refine lv_if_ne (tgt := 11) hx hb dX8_write_5 (by decide) (fun c_2 => ?_) (fun c_2 => absurd c_2 (by decide))
  refine lv_aload_n hx hb dX8_write_11 rfl (lv_at hl 0 rfl) ?_
  refine va_get (D := (dC, dI)) (ci := 8) (v := .ref x_slots) (C := RX8) (T := TX8) (N := 15) hx hb hts inA8 hown hK hP 2 rfl rfl 5 (by decide) (hts _ w_29) (fun _ h9 => h9) rfl dX8_write_12 ?_
  refine lv_iload_n hx hb dX8_write_15 rfl (lv_at hl 1 rfl) ?_
  refine va_aldq hx hb hK hP 0 0 rfl rfl (show vp_in 3 4 from (by unfold vp_in; decide)) dX8_write_16 ?_
  refine W.eq (g2 := F0 m 17 ls [.ref s3]) rfl ?_
  refine lv_astore (lv' := [(5, .ref s3), (0, .ref h0), (1, .int 3), (2, .int a), (3, .long b)]) hx hb dX8_write_17 hl (by decide) rfl (fun ls hl => ?_)
  refine lv_aload hx hb dX8_write_19 (lv_at hl 0 rfl) ?_
  refine va_get (D := (dC, dI)) (ci := 5) (v := .int 0) (C := RX5) (T := TX5) (N := 4) hx hb hts inA5 hown hK hP 1 rfl rfl 1 (by decide) (hts _ w_1283) (fun _ h9 => h9) rfl dX8_write_21 ?_
  refine lv_if_ne (tgt := 30) hx hb dX8_write_24 (by decide) (fun c_3 => absurd (by decide) c_3) (fun c_3 => ?_)
  refine lv_bipush (v := (-6)) hx hb dX8_write_27 (by decide) ?_
  exact W.iret (v := (-6)) hx hb hr (fun t ht hW => ⟨⟨(-6), (), rfl, rfl, trivial⟩, hS.F ht⟩) hS.2.2 dX8_write_29
set_option maxHeartbeats 4000000 in
set_option maxRecDepth 100000 in
theorem x_rowO (l : Launch) (dC : Nat → ClassId) (dI : Nat → Nat → Nat) (sz : Nat) (h0 : Nat) (x_tape : Nat) (x_reader : Nat) (x_current : Nat) (x_images : Nat) (x_kept : Nat) (x_slots : Nat) (x_diary : Nat) (x_base : Nat) (x_trial : Nat) (x_plan : Nat) (x_orders : Nat) (x_unanswered : Nat) (a : Int32) (b : Int32) (d_ : Int32) (h1 : a.toInt < 0 ∨ 4 ≤ a.toInt) : Met l yX8_row (.code yX8_row cX8_row 4 (some .int) :: ALLW) ({ frames := 1, cells := 0, slots := 0, locals := 21 }) (va_Pc [.ref h0, .int a, .int b, .int d_] (fun U => U.heap.size = sz ∧ va_P (dC, dI) vwCl [(h0, .inr (8, [.ref x_tape, .ref x_reader, .ref x_current, .ref x_images, .ref x_kept, .ref x_slots, .ref x_diary, .ref x_base, .ref x_trial, .ref x_plan, .ref x_orders, .ref x_unanswered, .int 0, .int 0, .int (-1)]))] U.heap ∧ va_K (dC, dI) vwCl [] U ∧ va_D (fun _ => True) [(h0, .inr (8, [.ref x_tape, .ref x_reader, .ref x_current, .ref x_images, .ref x_kept, .ref x_slots, .ref x_diary, .ref x_base, .ref x_trial, .ref x_plan, .ref x_orders, .ref x_unanswered, .int 0, .int 0, .int (-1)]))])) (va_Qi (fun (r : Int32) (_ : Unit) => r = (-2)) (fun (_ : Unit) (_ : State) => True) (va_A [(h0, .inr (8, [.ref x_tape, .ref x_reader, .ref x_current, .ref x_images, .ref x_kept, .ref x_slots, .ref x_diary, .ref x_base, .ref x_trial, .ref x_plan, .ref x_orders, .ref x_unanswered, .int 0, .int 0, .int (-1)]))] sz)) 0 0 (va_A [(h0, .inr (8, [.ref x_tape, .ref x_reader, .ref x_current, .ref x_images, .ref x_kept, .ref x_slots, .ref x_diary, .ref x_base, .ref x_trial, .ref x_plan, .ref x_orders, .ref x_unanswered, .int 0, .int 0, .int (-1)]))] sz) := by
  refine Met.ofW (cc := cX8_row) (maxL := 4) (ret := (some .int)) (by decide) rfl ?_
  intro p e s m args below meth c s₁ B hml hv
  obtain ⟨rfl, hsz, hP, hK, hD0⟩ := hv
  have hx := B.exec
  have hb := B.bytes
  have hr := B.returns
  have hts0 := atoms_spec (ws := (.code yX8_row cX8_row 4 (some .int) :: ALLW)) B.pre
  have hts := fun (w : Cond) (h : w ∈ ALLW) => hts0 w (List.mem_cons_of_mem _ h)
  have hown : s.vm.findClass RX8 = some m.cls := findClass_of_methodNamed B.named
  have hlocks := B.notSynchronized
  subst hsz
  have hD := hD0.self (sz := s.heap.size)
  generalize hAe : va_A [(h0, .inr (8, [.ref x_tape, .ref x_reader, .ref x_current, .ref x_images, .ref x_kept, .ref x_slots, .ref x_diary, .ref x_base, .ref x_trial, .ref x_plan, .ref x_orders, .ref x_unanswered, .int 0, .int 0, .int (-1)]))] s.heap.size = A at hD ⊢
  have hA : ∀ q : Nat, s.heap.size ≤ q → A q := fun q h => by rw [← hAe]; exact Or.inr h
  have hS : va_S A s.heap s.heap [] := va_S.rf
  have hP : va_P (dC, dI) vwCl [(h0, .inr (8, [.ref x_tape, .ref x_reader, .ref x_current, .ref x_images, .ref x_kept, .ref x_slots, .ref x_diary, .ref x_base, .ref x_trial, .ref x_plan, .ref x_orders, .ref x_unanswered, .int 0, .int 0, .int (-1)]))] s.heap := hP
  have hl := lv_entry ([.ref h0, .int a, .int b, .int d_]) (n := 4) (Nat.le_of_ble_eq_true rfl)
  rw [lg_entry_eq]
  generalize (lg_sl ([.ref h0, .int a, .int b, .int d_]) ++ List.replicate (4 - (lg_sl ([.ref h0, .int a, .int b, .int d_])).length) Slot.unset).toArray = ls at hl ⊢
  have hl : lv_has ls 4 [(0, .ref h0), (1, .int a), (2, .int b), (3, .int d_)] := hl
  refine lv_aload_n hx hb dX8_row_0 rfl (lv_at hl 0 rfl) ?_
  refine lv_iload_n hx hb dX8_row_1 rfl (lv_at hl 1 rfl) ?_
  have hPc := hP.sub (ws' := [(h0, .inr (8, [.ref x_tape, .ref x_reader, .ref x_current, .ref x_images, .ref x_kept, .ref x_slots, .ref x_diary, .ref x_base, .ref x_trial, .ref x_plan, .ref x_orders, .ref x_unanswered, .int 0, .int 0, .int (-1)]))]) [0] rfl
  have hDc := hD.sub (ws' := [(h0, .inr (8, [.ref x_tape, .ref x_reader, .ref x_current, .ref x_images, .ref x_kept, .ref x_slots, .ref x_diary, .ref x_base, .ref x_trial, .ref x_plan, .ref x_orders, .ref x_unanswered, .int 0, .int 0, .int (-1)]))]) [0] (by decide) rfl
  have hKc := hK.sub (tys' := []) [] rfl
  have hFc := va_free (wc := [(h0, .inr (8, [.ref x_tape, .ref x_reader, .ref x_current, .ref x_images, .ref x_kept, .ref x_slots, .ref x_diary, .ref x_base, .ref x_trial, .ref x_plan, .ref x_orders, .ref x_unanswered, .int 0, .int 0, .int (-1)]))]) hD hS hA [0] rfl
  refine va_calli (va_runV (As := [.int a]) (rest := []) ⟨hx, hb, hml, hown, hts⟩ (c_isSlotO l dC dI s.heap.size h0 x_tape x_reader x_current x_images x_kept x_slots x_diary x_base x_trial x_plan x_orders x_unanswered a h1) (cwV 1 hts (goodV w_1288 w_1289 w_1290 w_2 w_1291) rfl rfl rfl hdV_X8_isSlot ⟨Nat.le_of_ble_eq_true rfl, Nat.le_of_ble_eq_true rfl⟩) ⟨fun a U g mk q => by obtain ⟨q0, q1, qP, qK, qD⟩ := q; exact ⟨q0, q1, qP, va_K.moved (u := U) (U := U.calling g mk a) (Vm.Alike.refl U.vm) qK, qD⟩, va_recv hKc hPc (ci := 8) (q0 := 0) rfl rfl, fun U hU hW => ⟨rfl, by rw [hU], by rw [hU]; exact hPc, va_K.moved hW.alike hKc, hDc.weaken (fun _ _ _ _ => trivial)⟩⟩ rfl rfl hl.1 rfl (lv_room (Nat.le_of_ble_eq_true rfl)) dX8_row_2 ⟨Nat.le_of_ble_eq_true rfl, Nat.le_of_ble_eq_true rfl⟩) hS (fun q _ h => hFc q h) hFc (fun r_1 u t H1 locs ht hvm hw hB hz1 hk1 hS => ?_)
  obtain ⟨hP1, hK1, hD1⟩ := hB
  rw [ht] at hP1
  have hK1 := va_K.moved hvm.symm hK1
  obtain ⟨hP, hD⟩ := va_join (wr := []) (w1 := [(h0, .inr (8, [.ref x_tape, .ref x_reader, .ref x_current, .ref x_images, .ref x_kept, .ref x_slots, .ref x_diary, .ref x_base, .ref x_trial, .ref x_plan, .ref x_orders, .ref x_unanswered, .int 0, .int 0, .int (-1)]))]) hP hD [0] [] rfl rfl (by decide) (by decide) hk1 hFc hP1 hD1
  clear hPc hDc hKc hFc
  generalize H1 = H at hP hS ⊢
  have hP : va_P (dC, dI) vwCl [(h0, .inr (8, [.ref x_tape, .ref x_reader, .ref x_current, .ref x_images, .ref x_kept, .ref x_slots, .ref x_diary, .ref x_base, .ref x_trial, .ref x_plan, .ref x_orders, .ref x_unanswered, .int 0, .int 0, .int (-1)]))] H := hP
  have hD : va_D A [(h0, .inr (8, [.ref x_tape, .ref x_reader, .ref x_current, .ref x_images, .ref x_kept, .ref x_slots, .ref x_diary, .ref x_base, .ref x_trial, .ref x_plan, .ref x_orders, .ref x_unanswered, .int 0, .int 0, .int (-1)]))] := hD
  have hw : r_1 = 0 := hw
  subst hw
  refine lv_if_eq (tgt := 23) hx hb dX8_row_5 (by decide) (fun c_2 => ?_) (fun c_2 => absurd (by decide) c_2)
  refine lv_bipush (v := (-2)) hx hb dX8_row_23 (by decide) ?_
  exact W.iret (v := (-2)) hx hb hr (fun t ht hW => ⟨⟨(-2), (), rfl, rfl, trivial⟩, hS.F ht⟩) hS.2.2 dX8_row_25
set_option maxHeartbeats 4000000 in
set_option maxRecDepth 100000 in
theorem x_writeO (l : Launch) (dC : Nat → ClassId) (dI : Nat → Nat → Nat) (sz : Nat) (h0 : Nat) (x_tape : Nat) (x_reader : Nat) (x_current : Nat) (x_images : Nat) (x_kept : Nat) (x_slots : Nat) (x_diary : Nat) (x_base : Nat) (x_trial : Nat) (x_plan : Nat) (x_orders : Nat) (x_unanswered : Nat) (a : Int32) (b : Int32) (d_ : Int64) (h1 : a.toInt < 0 ∨ 4 ≤ a.toInt) : Met l yX8_write (.code yX8_write cX8_write 6 (some .int) :: ALLW) ({ frames := 1, cells := 0, slots := 0, locals := 21 }) (va_Pc [.ref h0, .int a, .int b, .long d_] (fun U => U.heap.size = sz ∧ va_P (dC, dI) vwCl [(h0, .inr (8, [.ref x_tape, .ref x_reader, .ref x_current, .ref x_images, .ref x_kept, .ref x_slots, .ref x_diary, .ref x_base, .ref x_trial, .ref x_plan, .ref x_orders, .ref x_unanswered, .int 0, .int 0, .int (-1)]))] U.heap ∧ va_K (dC, dI) vwCl [] U ∧ va_D (fun _ => True) [(h0, .inr (8, [.ref x_tape, .ref x_reader, .ref x_current, .ref x_images, .ref x_kept, .ref x_slots, .ref x_diary, .ref x_base, .ref x_trial, .ref x_plan, .ref x_orders, .ref x_unanswered, .int 0, .int 0, .int (-1)]))])) (va_Qi (fun (r : Int32) (_ : Unit) => r = (-2)) (fun (_ : Unit) (_ : State) => True) (va_A [(h0, .inr (8, [.ref x_tape, .ref x_reader, .ref x_current, .ref x_images, .ref x_kept, .ref x_slots, .ref x_diary, .ref x_base, .ref x_trial, .ref x_plan, .ref x_orders, .ref x_unanswered, .int 0, .int 0, .int (-1)]))] sz)) 0 0 (va_A [(h0, .inr (8, [.ref x_tape, .ref x_reader, .ref x_current, .ref x_images, .ref x_kept, .ref x_slots, .ref x_diary, .ref x_base, .ref x_trial, .ref x_plan, .ref x_orders, .ref x_unanswered, .int 0, .int 0, .int (-1)]))] sz) := by
  refine Met.ofW (cc := cX8_write) (maxL := 6) (ret := (some .int)) (by decide) rfl ?_
  intro p e s m args below meth c s₁ B hml hv
  obtain ⟨rfl, hsz, hP, hK, hD0⟩ := hv
  have hx := B.exec
  have hb := B.bytes
  have hr := B.returns
  have hts0 := atoms_spec (ws := (.code yX8_write cX8_write 6 (some .int) :: ALLW)) B.pre
  have hts := fun (w : Cond) (h : w ∈ ALLW) => hts0 w (List.mem_cons_of_mem _ h)
  have hown : s.vm.findClass RX8 = some m.cls := findClass_of_methodNamed B.named
  have hlocks := B.notSynchronized
  subst hsz
  have hD := hD0.self (sz := s.heap.size)
  generalize hAe : va_A [(h0, .inr (8, [.ref x_tape, .ref x_reader, .ref x_current, .ref x_images, .ref x_kept, .ref x_slots, .ref x_diary, .ref x_base, .ref x_trial, .ref x_plan, .ref x_orders, .ref x_unanswered, .int 0, .int 0, .int (-1)]))] s.heap.size = A at hD ⊢
  have hA : ∀ q : Nat, s.heap.size ≤ q → A q := fun q h => by rw [← hAe]; exact Or.inr h
  have hS : va_S A s.heap s.heap [] := va_S.rf
  have hP : va_P (dC, dI) vwCl [(h0, .inr (8, [.ref x_tape, .ref x_reader, .ref x_current, .ref x_images, .ref x_kept, .ref x_slots, .ref x_diary, .ref x_base, .ref x_trial, .ref x_plan, .ref x_orders, .ref x_unanswered, .int 0, .int 0, .int (-1)]))] s.heap := hP
  have hl := lv_entry ([.ref h0, .int a, .int b, .long d_]) (n := 6) (Nat.le_of_ble_eq_true rfl)
  rw [lg_entry_eq]
  generalize (lg_sl ([.ref h0, .int a, .int b, .long d_]) ++ List.replicate (6 - (lg_sl ([.ref h0, .int a, .int b, .long d_])).length) Slot.unset).toArray = ls at hl ⊢
  have hl : lv_has ls 6 [(0, .ref h0), (1, .int a), (2, .int b), (3, .long d_)] := hl
  refine lv_aload_n hx hb dX8_write_0 rfl (lv_at hl 0 rfl) ?_
  refine lv_iload_n hx hb dX8_write_1 rfl (lv_at hl 1 rfl) ?_
  have hPc := hP.sub (ws' := [(h0, .inr (8, [.ref x_tape, .ref x_reader, .ref x_current, .ref x_images, .ref x_kept, .ref x_slots, .ref x_diary, .ref x_base, .ref x_trial, .ref x_plan, .ref x_orders, .ref x_unanswered, .int 0, .int 0, .int (-1)]))]) [0] rfl
  have hDc := hD.sub (ws' := [(h0, .inr (8, [.ref x_tape, .ref x_reader, .ref x_current, .ref x_images, .ref x_kept, .ref x_slots, .ref x_diary, .ref x_base, .ref x_trial, .ref x_plan, .ref x_orders, .ref x_unanswered, .int 0, .int 0, .int (-1)]))]) [0] (by decide) rfl
  have hKc := hK.sub (tys' := []) [] rfl
  have hFc := va_free (wc := [(h0, .inr (8, [.ref x_tape, .ref x_reader, .ref x_current, .ref x_images, .ref x_kept, .ref x_slots, .ref x_diary, .ref x_base, .ref x_trial, .ref x_plan, .ref x_orders, .ref x_unanswered, .int 0, .int 0, .int (-1)]))]) hD hS hA [0] rfl
  refine va_calli (va_runV (As := [.int a]) (rest := []) ⟨hx, hb, hml, hown, hts⟩ (c_isSlotO l dC dI s.heap.size h0 x_tape x_reader x_current x_images x_kept x_slots x_diary x_base x_trial x_plan x_orders x_unanswered a h1) (cwV 1 hts (goodV w_1288 w_1289 w_1290 w_2 w_1291) rfl rfl rfl hdV_X8_isSlot ⟨Nat.le_of_ble_eq_true rfl, Nat.le_of_ble_eq_true rfl⟩) ⟨fun a U g mk q => by obtain ⟨q0, q1, qP, qK, qD⟩ := q; exact ⟨q0, q1, qP, va_K.moved (u := U) (U := U.calling g mk a) (Vm.Alike.refl U.vm) qK, qD⟩, va_recv hKc hPc (ci := 8) (q0 := 0) rfl rfl, fun U hU hW => ⟨rfl, by rw [hU], by rw [hU]; exact hPc, va_K.moved hW.alike hKc, hDc.weaken (fun _ _ _ _ => trivial)⟩⟩ rfl rfl hl.1 rfl (lv_room (Nat.le_of_ble_eq_true rfl)) dX8_write_2 ⟨Nat.le_of_ble_eq_true rfl, Nat.le_of_ble_eq_true rfl⟩) hS (fun q _ h => hFc q h) hFc (fun r_1 u t H1 locs ht hvm hw hB hz1 hk1 hS => ?_)
  obtain ⟨hP1, hK1, hD1⟩ := hB
  rw [ht] at hP1
  have hK1 := va_K.moved hvm.symm hK1
  obtain ⟨hP, hD⟩ := va_join (wr := []) (w1 := [(h0, .inr (8, [.ref x_tape, .ref x_reader, .ref x_current, .ref x_images, .ref x_kept, .ref x_slots, .ref x_diary, .ref x_base, .ref x_trial, .ref x_plan, .ref x_orders, .ref x_unanswered, .int 0, .int 0, .int (-1)]))]) hP hD [0] [] rfl rfl (by decide) (by decide) hk1 hFc hP1 hD1
  clear hPc hDc hKc hFc
  generalize H1 = H at hP hS ⊢
  have hP : va_P (dC, dI) vwCl [(h0, .inr (8, [.ref x_tape, .ref x_reader, .ref x_current, .ref x_images, .ref x_kept, .ref x_slots, .ref x_diary, .ref x_base, .ref x_trial, .ref x_plan, .ref x_orders, .ref x_unanswered, .int 0, .int 0, .int (-1)]))] H := hP
  have hD : va_D A [(h0, .inr (8, [.ref x_tape, .ref x_reader, .ref x_current, .ref x_images, .ref x_kept, .ref x_slots, .ref x_diary, .ref x_base, .ref x_trial, .ref x_plan, .ref x_orders, .ref x_unanswered, .int 0, .int 0, .int (-1)]))] := hD
  have hw : r_1 = 0 := hw
  subst hw
  refine lv_if_ne (tgt := 11) hx hb dX8_write_5 (by decide) (fun c_2 => absurd (by decide) c_2) (fun c_2 => ?_)
  refine lv_bipush (v := (-2)) hx hb dX8_write_8 (by decide) ?_
  exact W.iret (v := (-2)) hx hb hr (fun t ht hW => ⟨⟨(-2), (), rfl, rfl, trivial⟩, hS.F ht⟩) hS.2.2 dX8_write_10
set_option maxHeartbeats 4000000 in
set_option maxRecDepth 100000 in
theorem x_pasteO (l : Launch) (dC : Nat → ClassId) (dI : Nat → Nat → Nat) (sz : Nat) (h0 : Nat) (x_tape : Nat) (x_reader : Nat) (x_current : Nat) (x_images : Nat) (x_kept : Nat) (x_slots : Nat) (x_diary : Nat) (x_base : Nat) (x_trial : Nat) (x_plan : Nat) (x_orders : Nat) (x_unanswered : Nat) (a : Int32) (b : Int32) (d_ : Int32) (g_ : Int32) (w_ : Int32) (h1 : a.toInt < 0 ∨ 4 ≤ a.toInt) : Met l yX8_paste (.code yX8_paste cX8_paste 8 (some .int) :: ALLW) ({ frames := 1, cells := 0, slots := 0, locals := 21 }) (va_Pc [.ref h0, .int a, .int b, .int d_, .int g_, .int w_] (fun U => U.heap.size = sz ∧ va_P (dC, dI) vwCl [(h0, .inr (8, [.ref x_tape, .ref x_reader, .ref x_current, .ref x_images, .ref x_kept, .ref x_slots, .ref x_diary, .ref x_base, .ref x_trial, .ref x_plan, .ref x_orders, .ref x_unanswered, .int 0, .int 0, .int (-1)]))] U.heap ∧ va_K (dC, dI) vwCl [] U ∧ va_D (fun _ => True) [(h0, .inr (8, [.ref x_tape, .ref x_reader, .ref x_current, .ref x_images, .ref x_kept, .ref x_slots, .ref x_diary, .ref x_base, .ref x_trial, .ref x_plan, .ref x_orders, .ref x_unanswered, .int 0, .int 0, .int (-1)]))])) (va_Qi (fun (r : Int32) (_ : Unit) => r = (-2)) (fun (_ : Unit) (_ : State) => True) (va_A [(h0, .inr (8, [.ref x_tape, .ref x_reader, .ref x_current, .ref x_images, .ref x_kept, .ref x_slots, .ref x_diary, .ref x_base, .ref x_trial, .ref x_plan, .ref x_orders, .ref x_unanswered, .int 0, .int 0, .int (-1)]))] sz)) 0 0 (va_A [(h0, .inr (8, [.ref x_tape, .ref x_reader, .ref x_current, .ref x_images, .ref x_kept, .ref x_slots, .ref x_diary, .ref x_base, .ref x_trial, .ref x_plan, .ref x_orders, .ref x_unanswered, .int 0, .int 0, .int (-1)]))] sz) := by
  refine Met.ofW (cc := cX8_paste) (maxL := 8) (ret := (some .int)) (by decide) rfl ?_
  intro p e s m args below meth c s₁ B hml hv
  obtain ⟨rfl, hsz, hP, hK, hD0⟩ := hv
  have hx := B.exec
  have hb := B.bytes
  have hr := B.returns
  have hts0 := atoms_spec (ws := (.code yX8_paste cX8_paste 8 (some .int) :: ALLW)) B.pre
  have hts := fun (w : Cond) (h : w ∈ ALLW) => hts0 w (List.mem_cons_of_mem _ h)
  have hown : s.vm.findClass RX8 = some m.cls := findClass_of_methodNamed B.named
  have hlocks := B.notSynchronized
  subst hsz
  have hD := hD0.self (sz := s.heap.size)
  generalize hAe : va_A [(h0, .inr (8, [.ref x_tape, .ref x_reader, .ref x_current, .ref x_images, .ref x_kept, .ref x_slots, .ref x_diary, .ref x_base, .ref x_trial, .ref x_plan, .ref x_orders, .ref x_unanswered, .int 0, .int 0, .int (-1)]))] s.heap.size = A at hD ⊢
  have hA : ∀ q : Nat, s.heap.size ≤ q → A q := fun q h => by rw [← hAe]; exact Or.inr h
  have hS : va_S A s.heap s.heap [] := va_S.rf
  have hP : va_P (dC, dI) vwCl [(h0, .inr (8, [.ref x_tape, .ref x_reader, .ref x_current, .ref x_images, .ref x_kept, .ref x_slots, .ref x_diary, .ref x_base, .ref x_trial, .ref x_plan, .ref x_orders, .ref x_unanswered, .int 0, .int 0, .int (-1)]))] s.heap := hP
  have hl := lv_entry ([.ref h0, .int a, .int b, .int d_, .int g_, .int w_]) (n := 8) (Nat.le_of_ble_eq_true rfl)
  rw [lg_entry_eq]
  generalize (lg_sl ([.ref h0, .int a, .int b, .int d_, .int g_, .int w_]) ++ List.replicate (8 - (lg_sl ([.ref h0, .int a, .int b, .int d_, .int g_, .int w_])).length) Slot.unset).toArray = ls at hl ⊢
  have hl : lv_has ls 8 [(0, .ref h0), (1, .int a), (2, .int b), (3, .int d_), (4, .int g_), (5, .int w_)] := hl
  refine lv_aload_n hx hb dX8_paste_0 rfl (lv_at hl 0 rfl) ?_
  refine lv_iload_n hx hb dX8_paste_1 rfl (lv_at hl 1 rfl) ?_
  have hPc := hP.sub (ws' := [(h0, .inr (8, [.ref x_tape, .ref x_reader, .ref x_current, .ref x_images, .ref x_kept, .ref x_slots, .ref x_diary, .ref x_base, .ref x_trial, .ref x_plan, .ref x_orders, .ref x_unanswered, .int 0, .int 0, .int (-1)]))]) [0] rfl
  have hDc := hD.sub (ws' := [(h0, .inr (8, [.ref x_tape, .ref x_reader, .ref x_current, .ref x_images, .ref x_kept, .ref x_slots, .ref x_diary, .ref x_base, .ref x_trial, .ref x_plan, .ref x_orders, .ref x_unanswered, .int 0, .int 0, .int (-1)]))]) [0] (by decide) rfl
  have hKc := hK.sub (tys' := []) [] rfl
  have hFc := va_free (wc := [(h0, .inr (8, [.ref x_tape, .ref x_reader, .ref x_current, .ref x_images, .ref x_kept, .ref x_slots, .ref x_diary, .ref x_base, .ref x_trial, .ref x_plan, .ref x_orders, .ref x_unanswered, .int 0, .int 0, .int (-1)]))]) hD hS hA [0] rfl
  refine va_calli (va_runV (As := [.int a]) (rest := []) ⟨hx, hb, hml, hown, hts⟩ (c_isSlotO l dC dI s.heap.size h0 x_tape x_reader x_current x_images x_kept x_slots x_diary x_base x_trial x_plan x_orders x_unanswered a h1) (cwV 1 hts (goodV w_1288 w_1289 w_1290 w_2 w_1291) rfl rfl rfl hdV_X8_isSlot ⟨Nat.le_of_ble_eq_true rfl, Nat.le_of_ble_eq_true rfl⟩) ⟨fun a U g mk q => by obtain ⟨q0, q1, qP, qK, qD⟩ := q; exact ⟨q0, q1, qP, va_K.moved (u := U) (U := U.calling g mk a) (Vm.Alike.refl U.vm) qK, qD⟩, va_recv hKc hPc (ci := 8) (q0 := 0) rfl rfl, fun U hU hW => ⟨rfl, by rw [hU], by rw [hU]; exact hPc, va_K.moved hW.alike hKc, hDc.weaken (fun _ _ _ _ => trivial)⟩⟩ rfl rfl hl.1 rfl (lv_room (Nat.le_of_ble_eq_true rfl)) dX8_paste_2 ⟨Nat.le_of_ble_eq_true rfl, Nat.le_of_ble_eq_true rfl⟩) hS (fun q _ h => hFc q h) hFc (fun r_1 u t H1 locs ht hvm hw hB hz1 hk1 hS => ?_)
  obtain ⟨hP1, hK1, hD1⟩ := hB
  rw [ht] at hP1
  have hK1 := va_K.moved hvm.symm hK1
  obtain ⟨hP, hD⟩ := va_join (wr := []) (w1 := [(h0, .inr (8, [.ref x_tape, .ref x_reader, .ref x_current, .ref x_images, .ref x_kept, .ref x_slots, .ref x_diary, .ref x_base, .ref x_trial, .ref x_plan, .ref x_orders, .ref x_unanswered, .int 0, .int 0, .int (-1)]))]) hP hD [0] [] rfl rfl (by decide) (by decide) hk1 hFc hP1 hD1
  clear hPc hDc hKc hFc
  generalize H1 = H at hP hS ⊢
  have hP : va_P (dC, dI) vwCl [(h0, .inr (8, [.ref x_tape, .ref x_reader, .ref x_current, .ref x_images, .ref x_kept, .ref x_slots, .ref x_diary, .ref x_base, .ref x_trial, .ref x_plan, .ref x_orders, .ref x_unanswered, .int 0, .int 0, .int (-1)]))] H := hP
  have hD : va_D A [(h0, .inr (8, [.ref x_tape, .ref x_reader, .ref x_current, .ref x_images, .ref x_kept, .ref x_slots, .ref x_diary, .ref x_base, .ref x_trial, .ref x_plan, .ref x_orders, .ref x_unanswered, .int 0, .int 0, .int (-1)]))] := hD
  have hw : r_1 = 0 := hw
  subst hw
  refine lv_if_eq (tgt := 16) hx hb dX8_paste_5 (by decide) (fun c_2 => ?_) (fun c_2 => absurd (by decide) c_2)
  refine lv_bipush (v := (-2)) hx hb dX8_paste_16 (by decide) ?_
  exact W.iret (v := (-2)) hx hb hr (fun t ht hW => ⟨⟨(-2), (), rfl, rfl, trivial⟩, hS.F ht⟩) hS.2.2 dX8_paste_18
set_option maxHeartbeats 4000000 in
set_option maxRecDepth 100000 in
theorem x_pasteO0 (l : Launch) (dC : Nat → ClassId) (dI : Nat → Nat → Nat) (sz : Nat) (h0 : Nat) (x_tape : Nat) (x_reader : Nat) (x_current : Nat) (x_images : Nat) (x_kept : Nat) (x_slots : Nat) (x_diary : Nat) (x_base : Nat) (x_trial : Nat) (x_plan : Nat) (x_orders : Nat) (x_unanswered : Nat) (b : Int32) (a : Int32) (g_ : Int32) (w_ : Int32) (h1 : a.toInt < 0 ∨ 4 ≤ a.toInt) : Met l yX8_paste (.code yX8_paste cX8_paste 8 (some .int) :: ALLW) ({ frames := 1, cells := 0, slots := 0, locals := 21 }) (va_Pc [.ref h0, .int 0, .int b, .int a, .int g_, .int w_] (fun U => U.heap.size = sz ∧ va_P (dC, dI) vwCl [(h0, .inr (8, [.ref x_tape, .ref x_reader, .ref x_current, .ref x_images, .ref x_kept, .ref x_slots, .ref x_diary, .ref x_base, .ref x_trial, .ref x_plan, .ref x_orders, .ref x_unanswered, .int 0, .int 0, .int (-1)]))] U.heap ∧ va_K (dC, dI) vwCl [] U ∧ va_D (fun _ => True) [(h0, .inr (8, [.ref x_tape, .ref x_reader, .ref x_current, .ref x_images, .ref x_kept, .ref x_slots, .ref x_diary, .ref x_base, .ref x_trial, .ref x_plan, .ref x_orders, .ref x_unanswered, .int 0, .int 0, .int (-1)]))])) (va_Qi (fun (r : Int32) (_ : Unit) => r = (-2)) (fun (_ : Unit) (_ : State) => True) (va_A [(h0, .inr (8, [.ref x_tape, .ref x_reader, .ref x_current, .ref x_images, .ref x_kept, .ref x_slots, .ref x_diary, .ref x_base, .ref x_trial, .ref x_plan, .ref x_orders, .ref x_unanswered, .int 0, .int 0, .int (-1)]))] sz)) 0 0 (va_A [(h0, .inr (8, [.ref x_tape, .ref x_reader, .ref x_current, .ref x_images, .ref x_kept, .ref x_slots, .ref x_diary, .ref x_base, .ref x_trial, .ref x_plan, .ref x_orders, .ref x_unanswered, .int 0, .int 0, .int (-1)]))] sz) := by
  refine Met.ofW (cc := cX8_paste) (maxL := 8) (ret := (some .int)) (by decide) rfl ?_
  intro p e s m args below meth c s₁ B hml hv
  obtain ⟨rfl, hsz, hP, hK, hD0⟩ := hv
  have hx := B.exec
  have hb := B.bytes
  have hr := B.returns
  have hts0 := atoms_spec (ws := (.code yX8_paste cX8_paste 8 (some .int) :: ALLW)) B.pre
  have hts := fun (w : Cond) (h : w ∈ ALLW) => hts0 w (List.mem_cons_of_mem _ h)
  have hown : s.vm.findClass RX8 = some m.cls := findClass_of_methodNamed B.named
  have hlocks := B.notSynchronized
  subst hsz
  have hD := hD0.self (sz := s.heap.size)
  generalize hAe : va_A [(h0, .inr (8, [.ref x_tape, .ref x_reader, .ref x_current, .ref x_images, .ref x_kept, .ref x_slots, .ref x_diary, .ref x_base, .ref x_trial, .ref x_plan, .ref x_orders, .ref x_unanswered, .int 0, .int 0, .int (-1)]))] s.heap.size = A at hD ⊢
  have hA : ∀ q : Nat, s.heap.size ≤ q → A q := fun q h => by rw [← hAe]; exact Or.inr h
  have hS : va_S A s.heap s.heap [] := va_S.rf
  have hP : va_P (dC, dI) vwCl [(h0, .inr (8, [.ref x_tape, .ref x_reader, .ref x_current, .ref x_images, .ref x_kept, .ref x_slots, .ref x_diary, .ref x_base, .ref x_trial, .ref x_plan, .ref x_orders, .ref x_unanswered, .int 0, .int 0, .int (-1)]))] s.heap := hP
  have hl := lv_entry ([.ref h0, .int 0, .int b, .int a, .int g_, .int w_]) (n := 8) (Nat.le_of_ble_eq_true rfl)
  rw [lg_entry_eq]
  generalize (lg_sl ([.ref h0, .int 0, .int b, .int a, .int g_, .int w_]) ++ List.replicate (8 - (lg_sl ([.ref h0, .int 0, .int b, .int a, .int g_, .int w_])).length) Slot.unset).toArray = ls at hl ⊢
  have hl : lv_has ls 8 [(0, .ref h0), (1, .int 0), (2, .int b), (3, .int a), (4, .int g_), (5, .int w_)] := hl
  refine lv_aload_n hx hb dX8_paste_0 rfl (lv_at hl 0 rfl) ?_
  refine lv_iload_n hx hb dX8_paste_1 rfl (lv_at hl 1 rfl) ?_
  have hPc := hP.sub (ws' := [(h0, .inr (8, [.ref x_tape, .ref x_reader, .ref x_current, .ref x_images, .ref x_kept, .ref x_slots, .ref x_diary, .ref x_base, .ref x_trial, .ref x_plan, .ref x_orders, .ref x_unanswered, .int 0, .int 0, .int (-1)]))]) [0] rfl
  have hDc := hD.sub (ws' := [(h0, .inr (8, [.ref x_tape, .ref x_reader, .ref x_current, .ref x_images, .ref x_kept, .ref x_slots, .ref x_diary, .ref x_base, .ref x_trial, .ref x_plan, .ref x_orders, .ref x_unanswered, .int 0, .int 0, .int (-1)]))]) [0] (by decide) rfl
  have hKc := hK.sub (tys' := []) [] rfl
  have hFc := va_free (wc := [(h0, .inr (8, [.ref x_tape, .ref x_reader, .ref x_current, .ref x_images, .ref x_kept, .ref x_slots, .ref x_diary, .ref x_base, .ref x_trial, .ref x_plan, .ref x_orders, .ref x_unanswered, .int 0, .int 0, .int (-1)]))]) hD hS hA [0] rfl
  refine va_calli (va_runV (As := [.int 0]) (rest := []) ⟨hx, hb, hml, hown, hts⟩ (c_isSlot0 l dC dI s.heap.size h0 x_tape x_reader x_current x_images x_kept x_slots x_diary x_base x_trial x_plan x_orders x_unanswered ) (cwV 1 hts (goodV w_1288 w_1289 w_1290 w_2 w_1291) rfl rfl rfl hdV_X8_isSlot ⟨Nat.le_of_ble_eq_true rfl, Nat.le_of_ble_eq_true rfl⟩) ⟨fun a U g mk q => by obtain ⟨q0, q1, qP, qK, qD⟩ := q; exact ⟨q0, q1, qP, va_K.moved (u := U) (U := U.calling g mk a) (Vm.Alike.refl U.vm) qK, qD⟩, va_recv hKc hPc (ci := 8) (q0 := 0) rfl rfl, fun U hU hW => ⟨rfl, by rw [hU], by rw [hU]; exact hPc, va_K.moved hW.alike hKc, hDc.weaken (fun _ _ _ _ => trivial)⟩⟩ rfl rfl hl.1 rfl (lv_room (Nat.le_of_ble_eq_true rfl)) dX8_paste_2 ⟨Nat.le_of_ble_eq_true rfl, Nat.le_of_ble_eq_true rfl⟩) hS (fun q _ h => hFc q h) hFc (fun r_1 u t H1 locs ht hvm hw hB hz1 hk1 hS => ?_)
  obtain ⟨hP1, hK1, hD1⟩ := hB
  rw [ht] at hP1
  have hK1 := va_K.moved hvm.symm hK1
  obtain ⟨hP, hD⟩ := va_join (wr := []) (w1 := [(h0, .inr (8, [.ref x_tape, .ref x_reader, .ref x_current, .ref x_images, .ref x_kept, .ref x_slots, .ref x_diary, .ref x_base, .ref x_trial, .ref x_plan, .ref x_orders, .ref x_unanswered, .int 0, .int 0, .int (-1)]))]) hP hD [0] [] rfl rfl (by decide) (by decide) hk1 hFc hP1 hD1
  clear hPc hDc hKc hFc
  generalize H1 = H at hP hS ⊢
  have hP : va_P (dC, dI) vwCl [(h0, .inr (8, [.ref x_tape, .ref x_reader, .ref x_current, .ref x_images, .ref x_kept, .ref x_slots, .ref x_diary, .ref x_base, .ref x_trial, .ref x_plan, .ref x_orders, .ref x_unanswered, .int 0, .int 0, .int (-1)]))] H := hP
  have hD : va_D A [(h0, .inr (8, [.ref x_tape, .ref x_reader, .ref x_current, .ref x_images, .ref x_kept, .ref x_slots, .ref x_diary, .ref x_base, .ref x_trial, .ref x_plan, .ref x_orders, .ref x_unanswered, .int 0, .int 0, .int (-1)]))] := hD
  have hw : r_1 = 1 := hw
  subst hw
  refine lv_if_eq (tgt := 16) hx hb dX8_paste_5 (by decide) (fun c_2 => absurd c_2 (by decide)) (fun c_2 => ?_)
  refine lv_aload_n hx hb dX8_paste_8 rfl (lv_at hl 0 rfl) ?_
  refine lv_iload_n hx hb dX8_paste_9 rfl (lv_at hl 3 rfl) ?_
  have hPc := hP.sub (ws' := [(h0, .inr (8, [.ref x_tape, .ref x_reader, .ref x_current, .ref x_images, .ref x_kept, .ref x_slots, .ref x_diary, .ref x_base, .ref x_trial, .ref x_plan, .ref x_orders, .ref x_unanswered, .int 0, .int 0, .int (-1)]))]) [0] rfl
  have hDc := hD.sub (ws' := [(h0, .inr (8, [.ref x_tape, .ref x_reader, .ref x_current, .ref x_images, .ref x_kept, .ref x_slots, .ref x_diary, .ref x_base, .ref x_trial, .ref x_plan, .ref x_orders, .ref x_unanswered, .int 0, .int 0, .int (-1)]))]) [0] (by decide) rfl
  have hKc := hK.sub (tys' := []) [] rfl
  have hFc := va_free (wc := [(h0, .inr (8, [.ref x_tape, .ref x_reader, .ref x_current, .ref x_images, .ref x_kept, .ref x_slots, .ref x_diary, .ref x_base, .ref x_trial, .ref x_plan, .ref x_orders, .ref x_unanswered, .int 0, .int 0, .int (-1)]))]) hD hS hA [0] rfl
  refine va_calli (va_runV (As := [.int a]) (rest := []) ⟨hx, hb, hml, hown, hts⟩ (c_isSlotO l dC dI H.size h0 x_tape x_reader x_current x_images x_kept x_slots x_diary x_base x_trial x_plan x_orders x_unanswered a h1) (cwV 1 hts (goodV w_1288 w_1289 w_1290 w_2 w_1291) rfl rfl rfl hdV_X8_isSlot ⟨Nat.le_of_ble_eq_true rfl, Nat.le_of_ble_eq_true rfl⟩) ⟨fun a U g mk q => by obtain ⟨q0, q1, qP, qK, qD⟩ := q; exact ⟨q0, q1, qP, va_K.moved (u := U) (U := U.calling g mk a) (Vm.Alike.refl U.vm) qK, qD⟩, va_recv hKc hPc (ci := 8) (q0 := 0) rfl rfl, fun U hU hW => ⟨rfl, by rw [hU], by rw [hU]; exact hPc, va_K.moved hW.alike hKc, hDc.weaken (fun _ _ _ _ => trivial)⟩⟩ rfl rfl hl.1 rfl (lv_room (Nat.le_of_ble_eq_true rfl)) dX8_paste_10 ⟨Nat.le_of_ble_eq_true rfl, Nat.le_of_ble_eq_true rfl⟩) hS (fun q _ h => hFc q h) hFc (fun r_3 u t H1 locs ht hvm hw hB hz1 hk1 hS => ?_)
  obtain ⟨hP1, hK1, hD1⟩ := hB
  rw [ht] at hP1
  have hK1 := va_K.moved hvm.symm hK1
  obtain ⟨hP, hD⟩ := va_join (wr := []) (w1 := [(h0, .inr (8, [.ref x_tape, .ref x_reader, .ref x_current, .ref x_images, .ref x_kept, .ref x_slots, .ref x_diary, .ref x_base, .ref x_trial, .ref x_plan, .ref x_orders, .ref x_unanswered, .int 0, .int 0, .int (-1)]))]) hP hD [0] [] rfl rfl (by decide) (by decide) hk1 hFc hP1 hD1
  clear hPc hDc hKc hFc
  generalize H1 = H at hP hS ⊢
  have hP : va_P (dC, dI) vwCl [(h0, .inr (8, [.ref x_tape, .ref x_reader, .ref x_current, .ref x_images, .ref x_kept, .ref x_slots, .ref x_diary, .ref x_base, .ref x_trial, .ref x_plan, .ref x_orders, .ref x_unanswered, .int 0, .int 0, .int (-1)]))] H := hP
  have hD : va_D A [(h0, .inr (8, [.ref x_tape, .ref x_reader, .ref x_current, .ref x_images, .ref x_kept, .ref x_slots, .ref x_diary, .ref x_base, .ref x_trial, .ref x_plan, .ref x_orders, .ref x_unanswered, .int 0, .int 0, .int (-1)]))] := hD
  have hw : r_3 = 0 := hw
  subst hw
  refine lv_if_ne (tgt := 19) hx hb dX8_paste_13 (by decide) (fun c_4 => absurd (by decide) c_4) (fun c_4 => ?_)
  refine lv_bipush (v := (-2)) hx hb dX8_paste_16 (by decide) ?_
  exact W.iret (v := (-2)) hx hb hr (fun t ht hW => ⟨⟨(-2), (), rfl, rfl, trivial⟩, hS.F ht⟩) hS.2.2 dX8_paste_18
set_option maxHeartbeats 4000000 in
set_option maxRecDepth 100000 in
theorem x_paste00 (l : Launch) (dC : Nat → ClassId) (dI : Nat → Nat → Nat) (sz : Nat) (h0 : Nat) (x_tape : Nat) (x_reader : Nat) (x_current : Nat) (x_images : Nat) (x_kept : Nat) (x_slots : Nat) (x_diary : Nat) (x_base : Nat) (x_trial : Nat) (x_plan : Nat) (x_orders : Nat) (x_unanswered : Nat) (s0 : Nat) (s1 : Nat) (s2 : Nat) (s3 : Nat) (y0 : Nat) (y1 : Nat) (y2 : Nat) (y3 : Nat) (zk : ClassId) (b : Int32) (a : Int32) (g_ : Int32)  : Met l yX8_paste (.code yX8_paste cX8_paste 8 (some .int) :: ALLW) ({ frames := 1, cells := 0, slots := 0, locals := 21 }) (va_Pc [.ref h0, .int 0, .int b, .int 0, .int a, .int g_] (fun U => U.heap.size = sz ∧ va_P (dC, dI) vwCl [(h0, .inr (8, [.ref x_tape, .ref x_reader, .ref x_current, .ref x_images, .ref x_kept, .ref x_slots, .ref x_diary, .ref x_base, .ref x_trial, .ref x_plan, .ref x_orders, .ref x_unanswered, .int 0, .int 0, .int (-1)])), (x_slots, .inl (zk, 4, .inr (.inr (.inr (.inr (va_up (va_up (va_up (va_up (fun _ => none) 0 (some s0)) 1 (some s1)) 2 (some s2)) 3 (some s3))))))), (s0, .inr (5, [.ref y0, .int 0, .int 0, .int 0]))] U.heap ∧ va_K (dC, dI) vwCl [(zk, .object RX5)] U ∧ va_D (fun _ => True) [(h0, .inr (8, [.ref x_tape, .ref x_reader, .ref x_current, .ref x_images, .ref x_kept, .ref x_slots, .ref x_diary, .ref x_base, .ref x_trial, .ref x_plan, .ref x_orders, .ref x_unanswered, .int 0, .int 0, .int (-1)])), (x_slots, .inl (zk, 4, .inr (.inr (.inr (.inr (va_up (va_up (va_up (va_up (fun _ => none) 0 (some s0)) 1 (some s1)) 2 (some s2)) 3 (some s3))))))), (s0, .inr (5, [.ref y0, .int 0, .int 0, .int 0]))])) (va_Qi (fun (r : Int32) (_ : Unit) => r = (-6)) (fun (_ : Unit) (_ : State) => True) (va_A [(h0, .inr (8, [.ref x_tape, .ref x_reader, .ref x_current, .ref x_images, .ref x_kept, .ref x_slots, .ref x_diary, .ref x_base, .ref x_trial, .ref x_plan, .ref x_orders, .ref x_unanswered, .int 0, .int 0, .int (-1)])), (x_slots, .inl (zk, 4, .inr (.inr (.inr (.inr (va_up (va_up (va_up (va_up (fun _ => none) 0 (some s0)) 1 (some s1)) 2 (some s2)) 3 (some s3))))))), (s0, .inr (5, [.ref y0, .int 0, .int 0, .int 0]))] sz)) 0 0 (va_A [(h0, .inr (8, [.ref x_tape, .ref x_reader, .ref x_current, .ref x_images, .ref x_kept, .ref x_slots, .ref x_diary, .ref x_base, .ref x_trial, .ref x_plan, .ref x_orders, .ref x_unanswered, .int 0, .int 0, .int (-1)])), (x_slots, .inl (zk, 4, .inr (.inr (.inr (.inr (va_up (va_up (va_up (va_up (fun _ => none) 0 (some s0)) 1 (some s1)) 2 (some s2)) 3 (some s3))))))), (s0, .inr (5, [.ref y0, .int 0, .int 0, .int 0]))] sz) := by
  refine Met.ofW (cc := cX8_paste) (maxL := 8) (ret := (some .int)) (by decide) rfl ?_
  intro p e s m args below meth c s₁ B hml hv
  obtain ⟨rfl, hsz, hP, hK, hD0⟩ := hv
  have hx := B.exec
  have hb := B.bytes
  have hr := B.returns
  have hts0 := atoms_spec (ws := (.code yX8_paste cX8_paste 8 (some .int) :: ALLW)) B.pre
  have hts := fun (w : Cond) (h : w ∈ ALLW) => hts0 w (List.mem_cons_of_mem _ h)
  have hown : s.vm.findClass RX8 = some m.cls := findClass_of_methodNamed B.named
  have hlocks := B.notSynchronized
  subst hsz
  have hD := hD0.self (sz := s.heap.size)
  generalize hAe : va_A [(h0, .inr (8, [.ref x_tape, .ref x_reader, .ref x_current, .ref x_images, .ref x_kept, .ref x_slots, .ref x_diary, .ref x_base, .ref x_trial, .ref x_plan, .ref x_orders, .ref x_unanswered, .int 0, .int 0, .int (-1)])), (x_slots, .inl (zk, 4, .inr (.inr (.inr (.inr (va_up (va_up (va_up (va_up (fun _ => none) 0 (some s0)) 1 (some s1)) 2 (some s2)) 3 (some s3))))))), (s0, .inr (5, [.ref y0, .int 0, .int 0, .int 0]))] s.heap.size = A at hD ⊢
  have hA : ∀ q : Nat, s.heap.size ≤ q → A q := fun q h => by rw [← hAe]; exact Or.inr h
  have hS : va_S A s.heap s.heap [] := va_S.rf
  have hP : va_P (dC, dI) vwCl [(h0, .inr (8, [.ref x_tape, .ref x_reader, .ref x_current, .ref x_images, .ref x_kept, .ref x_slots, .ref x_diary, .ref x_base, .ref x_trial, .ref x_plan, .ref x_orders, .ref x_unanswered, .int 0, .int 0, .int (-1)])), (x_slots, .inl (zk, 4, .inr (.inr (.inr (.inr (va_up (va_up (va_up (va_up (fun _ => none) 0 (some s0)) 1 (some s1)) 2 (some s2)) 3 (some s3))))))), (s0, .inr (5, [.ref y0, .int 0, .int 0, .int 0]))] s.heap := hP
  have hl := lv_entry ([.ref h0, .int 0, .int b, .int 0, .int a, .int g_]) (n := 8) (Nat.le_of_ble_eq_true rfl)
  rw [lg_entry_eq]
  generalize (lg_sl ([.ref h0, .int 0, .int b, .int 0, .int a, .int g_]) ++ List.replicate (8 - (lg_sl ([.ref h0, .int 0, .int b, .int 0, .int a, .int g_])).length) Slot.unset).toArray = ls at hl ⊢
  have hl : lv_has ls 8 [(0, .ref h0), (1, .int 0), (2, .int b), (3, .int 0), (4, .int a), (5, .int g_)] := hl
  refine lv_aload_n hx hb dX8_paste_0 rfl (lv_at hl 0 rfl) ?_
  refine lv_iload_n hx hb dX8_paste_1 rfl (lv_at hl 1 rfl) ?_
  have hPc := hP.sub (ws' := [(h0, .inr (8, [.ref x_tape, .ref x_reader, .ref x_current, .ref x_images, .ref x_kept, .ref x_slots, .ref x_diary, .ref x_base, .ref x_trial, .ref x_plan, .ref x_orders, .ref x_unanswered, .int 0, .int 0, .int (-1)]))]) [0] rfl
  have hDc := hD.sub (ws' := [(h0, .inr (8, [.ref x_tape, .ref x_reader, .ref x_current, .ref x_images, .ref x_kept, .ref x_slots, .ref x_diary, .ref x_base, .ref x_trial, .ref x_plan, .ref x_orders, .ref x_unanswered, .int 0, .int 0, .int (-1)]))]) [0] (by decide) rfl
  have hKc := hK.sub (tys' := []) [] rfl
  have hFc := va_free (wc := [(h0, .inr (8, [.ref x_tape, .ref x_reader, .ref x_current, .ref x_images, .ref x_kept, .ref x_slots, .ref x_diary, .ref x_base, .ref x_trial, .ref x_plan, .ref x_orders, .ref x_unanswered, .int 0, .int 0, .int (-1)]))]) hD hS hA [0] rfl
  refine va_calli (va_runV (As := [.int 0]) (rest := []) ⟨hx, hb, hml, hown, hts⟩ (c_isSlot0 l dC dI s.heap.size h0 x_tape x_reader x_current x_images x_kept x_slots x_diary x_base x_trial x_plan x_orders x_unanswered ) (cwV 1 hts (goodV w_1288 w_1289 w_1290 w_2 w_1291) rfl rfl rfl hdV_X8_isSlot ⟨Nat.le_of_ble_eq_true rfl, Nat.le_of_ble_eq_true rfl⟩) ⟨fun a U g mk q => by obtain ⟨q0, q1, qP, qK, qD⟩ := q; exact ⟨q0, q1, qP, va_K.moved (u := U) (U := U.calling g mk a) (Vm.Alike.refl U.vm) qK, qD⟩, va_recv hKc hPc (ci := 8) (q0 := 0) rfl rfl, fun U hU hW => ⟨rfl, by rw [hU], by rw [hU]; exact hPc, va_K.moved hW.alike hKc, hDc.weaken (fun _ _ _ _ => trivial)⟩⟩ rfl rfl hl.1 rfl (lv_room (Nat.le_of_ble_eq_true rfl)) dX8_paste_2 ⟨Nat.le_of_ble_eq_true rfl, Nat.le_of_ble_eq_true rfl⟩) hS (fun q _ h => hFc q h) hFc (fun r_1 u t H1 locs ht hvm hw hB hz1 hk1 hS => ?_)
  obtain ⟨hP1, hK1, hD1⟩ := hB
  rw [ht] at hP1
  have hK1 := va_K.moved hvm.symm hK1
  obtain ⟨hP, hD⟩ := va_join (wr := [(x_slots, .inl (zk, 4, .inr (.inr (.inr (.inr (va_up (va_up (va_up (va_up (fun _ => none) 0 (some s0)) 1 (some s1)) 2 (some s2)) 3 (some s3))))))), (s0, .inr (5, [.ref y0, .int 0, .int 0, .int 0]))]) (w1 := [(h0, .inr (8, [.ref x_tape, .ref x_reader, .ref x_current, .ref x_images, .ref x_kept, .ref x_slots, .ref x_diary, .ref x_base, .ref x_trial, .ref x_plan, .ref x_orders, .ref x_unanswered, .int 0, .int 0, .int (-1)]))]) hP hD [0] [1, 2] rfl rfl (by decide) (by decide) hk1 hFc hP1 hD1
  clear hPc hDc hKc hFc
  generalize H1 = H at hP hS ⊢
  have hP : va_P (dC, dI) vwCl [(x_slots, .inl (zk, 4, .inr (.inr (.inr (.inr (va_up (va_up (va_up (va_up (fun _ => none) 0 (some s0)) 1 (some s1)) 2 (some s2)) 3 (some s3))))))), (s0, .inr (5, [.ref y0, .int 0, .int 0, .int 0])), (h0, .inr (8, [.ref x_tape, .ref x_reader, .ref x_current, .ref x_images, .ref x_kept, .ref x_slots, .ref x_diary, .ref x_base, .ref x_trial, .ref x_plan, .ref x_orders, .ref x_unanswered, .int 0, .int 0, .int (-1)]))] H := hP
  have hD : va_D A [(x_slots, .inl (zk, 4, .inr (.inr (.inr (.inr (va_up (va_up (va_up (va_up (fun _ => none) 0 (some s0)) 1 (some s1)) 2 (some s2)) 3 (some s3))))))), (s0, .inr (5, [.ref y0, .int 0, .int 0, .int 0])), (h0, .inr (8, [.ref x_tape, .ref x_reader, .ref x_current, .ref x_images, .ref x_kept, .ref x_slots, .ref x_diary, .ref x_base, .ref x_trial, .ref x_plan, .ref x_orders, .ref x_unanswered, .int 0, .int 0, .int (-1)]))] := hD
  have hw : r_1 = 1 := hw
  subst hw
  refine lv_if_eq (tgt := 16) hx hb dX8_paste_5 (by decide) (fun c_2 => absurd c_2 (by decide)) (fun c_2 => ?_)
  refine lv_aload_n hx hb dX8_paste_8 rfl (lv_at hl 0 rfl) ?_
  refine lv_iload_n hx hb dX8_paste_9 rfl (lv_at hl 3 rfl) ?_
  have hPc := hP.sub (ws' := [(h0, .inr (8, [.ref x_tape, .ref x_reader, .ref x_current, .ref x_images, .ref x_kept, .ref x_slots, .ref x_diary, .ref x_base, .ref x_trial, .ref x_plan, .ref x_orders, .ref x_unanswered, .int 0, .int 0, .int (-1)]))]) [2] rfl
  have hDc := hD.sub (ws' := [(h0, .inr (8, [.ref x_tape, .ref x_reader, .ref x_current, .ref x_images, .ref x_kept, .ref x_slots, .ref x_diary, .ref x_base, .ref x_trial, .ref x_plan, .ref x_orders, .ref x_unanswered, .int 0, .int 0, .int (-1)]))]) [2] (by decide) rfl
  have hKc := hK.sub (tys' := []) [] rfl
  have hFc := va_free (wc := [(h0, .inr (8, [.ref x_tape, .ref x_reader, .ref x_current, .ref x_images, .ref x_kept, .ref x_slots, .ref x_diary, .ref x_base, .ref x_trial, .ref x_plan, .ref x_orders, .ref x_unanswered, .int 0, .int 0, .int (-1)]))]) hD hS hA [2] rfl
  refine va_calli (va_runV (As := [.int 0]) (rest := []) ⟨hx, hb, hml, hown, hts⟩ (c_isSlot0 l dC dI H.size h0 x_tape x_reader x_current x_images x_kept x_slots x_diary x_base x_trial x_plan x_orders x_unanswered ) (cwV 1 hts (goodV w_1288 w_1289 w_1290 w_2 w_1291) rfl rfl rfl hdV_X8_isSlot ⟨Nat.le_of_ble_eq_true rfl, Nat.le_of_ble_eq_true rfl⟩) ⟨fun a U g mk q => by obtain ⟨q0, q1, qP, qK, qD⟩ := q; exact ⟨q0, q1, qP, va_K.moved (u := U) (U := U.calling g mk a) (Vm.Alike.refl U.vm) qK, qD⟩, va_recv hKc hPc (ci := 8) (q0 := 0) rfl rfl, fun U hU hW => ⟨rfl, by rw [hU], by rw [hU]; exact hPc, va_K.moved hW.alike hKc, hDc.weaken (fun _ _ _ _ => trivial)⟩⟩ rfl rfl hl.1 rfl (lv_room (Nat.le_of_ble_eq_true rfl)) dX8_paste_10 ⟨Nat.le_of_ble_eq_true rfl, Nat.le_of_ble_eq_true rfl⟩) hS (fun q _ h => hFc q h) hFc (fun r_3 u t H1 locs ht hvm hw hB hz1 hk1 hS => ?_)
  obtain ⟨hP1, hK1, hD1⟩ := hB
  rw [ht] at hP1
  have hK1 := va_K.moved hvm.symm hK1
  obtain ⟨hP, hD⟩ := va_join (wr := [(x_slots, .inl (zk, 4, .inr (.inr (.inr (.inr (va_up (va_up (va_up (va_up (fun _ => none) 0 (some s0)) 1 (some s1)) 2 (some s2)) 3 (some s3))))))), (s0, .inr (5, [.ref y0, .int 0, .int 0, .int 0]))]) (w1 := [(h0, .inr (8, [.ref x_tape, .ref x_reader, .ref x_current, .ref x_images, .ref x_kept, .ref x_slots, .ref x_diary, .ref x_base, .ref x_trial, .ref x_plan, .ref x_orders, .ref x_unanswered, .int 0, .int 0, .int (-1)]))]) hP hD [2] [0, 1] rfl rfl (by decide) (by decide) hk1 hFc hP1 hD1
  clear hPc hDc hKc hFc
  generalize H1 = H at hP hS ⊢
  have hP : va_P (dC, dI) vwCl [(x_slots, .inl (zk, 4, .inr (.inr (.inr (.inr (va_up (va_up (va_up (va_up (fun _ => none) 0 (some s0)) 1 (some s1)) 2 (some s2)) 3 (some s3))))))), (s0, .inr (5, [.ref y0, .int 0, .int 0, .int 0])), (h0, .inr (8, [.ref x_tape, .ref x_reader, .ref x_current, .ref x_images, .ref x_kept, .ref x_slots, .ref x_diary, .ref x_base, .ref x_trial, .ref x_plan, .ref x_orders, .ref x_unanswered, .int 0, .int 0, .int (-1)]))] H := hP
  have hD : va_D A [(x_slots, .inl (zk, 4, .inr (.inr (.inr (.inr (va_up (va_up (va_up (va_up (fun _ => none) 0 (some s0)) 1 (some s1)) 2 (some s2)) 3 (some s3))))))), (s0, .inr (5, [.ref y0, .int 0, .int 0, .int 0])), (h0, .inr (8, [.ref x_tape, .ref x_reader, .ref x_current, .ref x_images, .ref x_kept, .ref x_slots, .ref x_diary, .ref x_base, .ref x_trial, .ref x_plan, .ref x_orders, .ref x_unanswered, .int 0, .int 0, .int (-1)]))] := hD
  have hw : r_3 = 1 := hw
  subst hw
  refine lv_if_ne (tgt := 19) hx hb dX8_paste_13 (by decide) (fun c_4 => ?_) (fun c_4 => absurd c_4 (by decide))
  refine lv_aload_n hx hb dX8_paste_19 rfl (lv_at hl 0 rfl) ?_
  refine va_get (D := (dC, dI)) (ci := 8) (v := .ref x_slots) (C := RX8) (T := TX8) (N := 15) hx hb hts inA8 hown hK hP 2 rfl rfl 5 (by decide) (hts _ w_29) (fun _ h9 => h9) rfl dX8_paste_20 ?_
  refine lv_iload_n hx hb dX8_paste_23 rfl (lv_at hl 1 rfl) ?_
  refine va_aldq hx hb hK hP 0 0 rfl rfl (show vp_in 0 4 from (by unfold vp_in; decide)) dX8_paste_24 ?_
  refine W.eq (g2 := F0 m 25 ls [.ref s0]) rfl ?_
  refine lv_astore (lv' := [(6, .ref s0), (0, .ref h0), (1, .int 0), (2, .int b), (3, .int 0), (4, .int a), (5, .int g_)]) hx hb dX8_paste_25 hl (by decide) rfl (fun ls hl => ?_)
  refine lv_aload_n hx hb dX8_paste_27 rfl (lv_at hl 1 rfl) ?_
  refine va_get (D := (dC, dI)) (ci := 8) (v := .ref x_slots) (C := RX8) (T := TX8) (N := 15) hx hb hts inA8 hown hK hP 2 rfl rfl 5 (by decide) (hts _ w_29) (fun _ h9 => h9) rfl dX8_paste_28 ?_
  refine lv_iload_n hx hb dX8_paste_31 rfl (lv_at hl 4 rfl) ?_
  refine va_aldq hx hb hK hP 0 0 rfl rfl (show vp_in 0 4 from (by unfold vp_in; decide)) dX8_paste_32 ?_
  refine W.eq (g2 := F0 m 33 ls [.ref s0]) rfl ?_
  refine lv_astore (lv' := [(7, .ref s0), (6, .ref s0), (0, .ref h0), (1, .int 0), (2, .int b), (3, .int 0), (4, .int a), (5, .int g_)]) hx hb dX8_paste_33 hl (by decide) rfl (fun ls hl => ?_)
  refine lv_aload hx hb dX8_paste_35 (lv_at hl 1 rfl) ?_
  refine va_get (D := (dC, dI)) (ci := 5) (v := .int 0) (C := RX5) (T := TX5) (N := 4) hx hb hts inA5 hown hK hP 1 rfl rfl 1 (by decide) (hts _ w_1283) (fun _ h9 => h9) rfl dX8_paste_37 ?_
  refine lv_if_eq (tgt := 51) hx hb dX8_paste_40 (by decide) (fun c_5 => ?_) (fun c_5 => absurd (by decide) c_5)
  refine lv_bipush (v := (-6)) hx hb dX8_paste_51 (by decide) ?_
  exact W.iret (v := (-6)) hx hb hr (fun t ht hW => ⟨⟨(-6), (), rfl, rfl, trivial⟩, hS.F ht⟩) hS.2.2 dX8_paste_53
set_option maxHeartbeats 4000000 in
set_option maxRecDepth 100000 in
theorem x_paste01 (l : Launch) (dC : Nat → ClassId) (dI : Nat → Nat → Nat) (sz : Nat) (h0 : Nat) (x_tape : Nat) (x_reader : Nat) (x_current : Nat) (x_images : Nat) (x_kept : Nat) (x_slots : Nat) (x_diary : Nat) (x_base : Nat) (x_trial : Nat) (x_plan : Nat) (x_orders : Nat) (x_unanswered : Nat) (s0 : Nat) (s1 : Nat) (s2 : Nat) (s3 : Nat) (y0 : Nat) (y1 : Nat) (y2 : Nat) (y3 : Nat) (zk : ClassId) (b : Int32) (a : Int32) (g_ : Int32)  : Met l yX8_paste (.code yX8_paste cX8_paste 8 (some .int) :: ALLW) ({ frames := 1, cells := 0, slots := 0, locals := 21 }) (va_Pc [.ref h0, .int 0, .int b, .int 1, .int a, .int g_] (fun U => U.heap.size = sz ∧ va_P (dC, dI) vwCl [(h0, .inr (8, [.ref x_tape, .ref x_reader, .ref x_current, .ref x_images, .ref x_kept, .ref x_slots, .ref x_diary, .ref x_base, .ref x_trial, .ref x_plan, .ref x_orders, .ref x_unanswered, .int 0, .int 0, .int (-1)])), (x_slots, .inl (zk, 4, .inr (.inr (.inr (.inr (va_up (va_up (va_up (va_up (fun _ => none) 0 (some s0)) 1 (some s1)) 2 (some s2)) 3 (some s3))))))), (s0, .inr (5, [.ref y0, .int 0, .int 0, .int 0])), (s1, .inr (5, [.ref y1, .int 0, .int 0, .int 0]))] U.heap ∧ va_K (dC, dI) vwCl [(zk, .object RX5)] U ∧ va_D (fun _ => True) [(h0, .inr (8, [.ref x_tape, .ref x_reader, .ref x_current, .ref x_images, .ref x_kept, .ref x_slots, .ref x_diary, .ref x_base, .ref x_trial, .ref x_plan, .ref x_orders, .ref x_unanswered, .int 0, .int 0, .int (-1)])), (x_slots, .inl (zk, 4, .inr (.inr (.inr (.inr (va_up (va_up (va_up (va_up (fun _ => none) 0 (some s0)) 1 (some s1)) 2 (some s2)) 3 (some s3))))))), (s0, .inr (5, [.ref y0, .int 0, .int 0, .int 0])), (s1, .inr (5, [.ref y1, .int 0, .int 0, .int 0]))])) (va_Qi (fun (r : Int32) (_ : Unit) => r = (-6)) (fun (_ : Unit) (_ : State) => True) (va_A [(h0, .inr (8, [.ref x_tape, .ref x_reader, .ref x_current, .ref x_images, .ref x_kept, .ref x_slots, .ref x_diary, .ref x_base, .ref x_trial, .ref x_plan, .ref x_orders, .ref x_unanswered, .int 0, .int 0, .int (-1)])), (x_slots, .inl (zk, 4, .inr (.inr (.inr (.inr (va_up (va_up (va_up (va_up (fun _ => none) 0 (some s0)) 1 (some s1)) 2 (some s2)) 3 (some s3))))))), (s0, .inr (5, [.ref y0, .int 0, .int 0, .int 0])), (s1, .inr (5, [.ref y1, .int 0, .int 0, .int 0]))] sz)) 0 0 (va_A [(h0, .inr (8, [.ref x_tape, .ref x_reader, .ref x_current, .ref x_images, .ref x_kept, .ref x_slots, .ref x_diary, .ref x_base, .ref x_trial, .ref x_plan, .ref x_orders, .ref x_unanswered, .int 0, .int 0, .int (-1)])), (x_slots, .inl (zk, 4, .inr (.inr (.inr (.inr (va_up (va_up (va_up (va_up (fun _ => none) 0 (some s0)) 1 (some s1)) 2 (some s2)) 3 (some s3))))))), (s0, .inr (5, [.ref y0, .int 0, .int 0, .int 0])), (s1, .inr (5, [.ref y1, .int 0, .int 0, .int 0]))] sz) := by
  refine Met.ofW (cc := cX8_paste) (maxL := 8) (ret := (some .int)) (by decide) rfl ?_
  intro p e s m args below meth c s₁ B hml hv
  obtain ⟨rfl, hsz, hP, hK, hD0⟩ := hv
  have hx := B.exec
  have hb := B.bytes
  have hr := B.returns
  have hts0 := atoms_spec (ws := (.code yX8_paste cX8_paste 8 (some .int) :: ALLW)) B.pre
  have hts := fun (w : Cond) (h : w ∈ ALLW) => hts0 w (List.mem_cons_of_mem _ h)
  have hown : s.vm.findClass RX8 = some m.cls := findClass_of_methodNamed B.named
  have hlocks := B.notSynchronized
  subst hsz
  have hD := hD0.self (sz := s.heap.size)
  generalize hAe : va_A [(h0, .inr (8, [.ref x_tape, .ref x_reader, .ref x_current, .ref x_images, .ref x_kept, .ref x_slots, .ref x_diary, .ref x_base, .ref x_trial, .ref x_plan, .ref x_orders, .ref x_unanswered, .int 0, .int 0, .int (-1)])), (x_slots, .inl (zk, 4, .inr (.inr (.inr (.inr (va_up (va_up (va_up (va_up (fun _ => none) 0 (some s0)) 1 (some s1)) 2 (some s2)) 3 (some s3))))))), (s0, .inr (5, [.ref y0, .int 0, .int 0, .int 0])), (s1, .inr (5, [.ref y1, .int 0, .int 0, .int 0]))] s.heap.size = A at hD ⊢
  have hA : ∀ q : Nat, s.heap.size ≤ q → A q := fun q h => by rw [← hAe]; exact Or.inr h
  have hS : va_S A s.heap s.heap [] := va_S.rf
  have hP : va_P (dC, dI) vwCl [(h0, .inr (8, [.ref x_tape, .ref x_reader, .ref x_current, .ref x_images, .ref x_kept, .ref x_slots, .ref x_diary, .ref x_base, .ref x_trial, .ref x_plan, .ref x_orders, .ref x_unanswered, .int 0, .int 0, .int (-1)])), (x_slots, .inl (zk, 4, .inr (.inr (.inr (.inr (va_up (va_up (va_up (va_up (fun _ => none) 0 (some s0)) 1 (some s1)) 2 (some s2)) 3 (some s3))))))), (s0, .inr (5, [.ref y0, .int 0, .int 0, .int 0])), (s1, .inr (5, [.ref y1, .int 0, .int 0, .int 0]))] s.heap := hP
  have hl := lv_entry ([.ref h0, .int 0, .int b, .int 1, .int a, .int g_]) (n := 8) (Nat.le_of_ble_eq_true rfl)
  rw [lg_entry_eq]
  generalize (lg_sl ([.ref h0, .int 0, .int b, .int 1, .int a, .int g_]) ++ List.replicate (8 - (lg_sl ([.ref h0, .int 0, .int b, .int 1, .int a, .int g_])).length) Slot.unset).toArray = ls at hl ⊢
  have hl : lv_has ls 8 [(0, .ref h0), (1, .int 0), (2, .int b), (3, .int 1), (4, .int a), (5, .int g_)] := hl
  refine lv_aload_n hx hb dX8_paste_0 rfl (lv_at hl 0 rfl) ?_
  refine lv_iload_n hx hb dX8_paste_1 rfl (lv_at hl 1 rfl) ?_
  have hPc := hP.sub (ws' := [(h0, .inr (8, [.ref x_tape, .ref x_reader, .ref x_current, .ref x_images, .ref x_kept, .ref x_slots, .ref x_diary, .ref x_base, .ref x_trial, .ref x_plan, .ref x_orders, .ref x_unanswered, .int 0, .int 0, .int (-1)]))]) [0] rfl
  have hDc := hD.sub (ws' := [(h0, .inr (8, [.ref x_tape, .ref x_reader, .ref x_current, .ref x_images, .ref x_kept, .ref x_slots, .ref x_diary, .ref x_base, .ref x_trial, .ref x_plan, .ref x_orders, .ref x_unanswered, .int 0, .int 0, .int (-1)]))]) [0] (by decide) rfl
  have hKc := hK.sub (tys' := []) [] rfl
  have hFc := va_free (wc := [(h0, .inr (8, [.ref x_tape, .ref x_reader, .ref x_current, .ref x_images, .ref x_kept, .ref x_slots, .ref x_diary, .ref x_base, .ref x_trial, .ref x_plan, .ref x_orders, .ref x_unanswered, .int 0, .int 0, .int (-1)]))]) hD hS hA [0] rfl
  refine va_calli (va_runV (As := [.int 0]) (rest := []) ⟨hx, hb, hml, hown, hts⟩ (c_isSlot0 l dC dI s.heap.size h0 x_tape x_reader x_current x_images x_kept x_slots x_diary x_base x_trial x_plan x_orders x_unanswered ) (cwV 1 hts (goodV w_1288 w_1289 w_1290 w_2 w_1291) rfl rfl rfl hdV_X8_isSlot ⟨Nat.le_of_ble_eq_true rfl, Nat.le_of_ble_eq_true rfl⟩) ⟨fun a U g mk q => by obtain ⟨q0, q1, qP, qK, qD⟩ := q; exact ⟨q0, q1, qP, va_K.moved (u := U) (U := U.calling g mk a) (Vm.Alike.refl U.vm) qK, qD⟩, va_recv hKc hPc (ci := 8) (q0 := 0) rfl rfl, fun U hU hW => ⟨rfl, by rw [hU], by rw [hU]; exact hPc, va_K.moved hW.alike hKc, hDc.weaken (fun _ _ _ _ => trivial)⟩⟩ rfl rfl hl.1 rfl (lv_room (Nat.le_of_ble_eq_true rfl)) dX8_paste_2 ⟨Nat.le_of_ble_eq_true rfl, Nat.le_of_ble_eq_true rfl⟩) hS (fun q _ h => hFc q h) hFc (fun r_1 u t H1 locs ht hvm hw hB hz1 hk1 hS => ?_)
  obtain ⟨hP1, hK1, hD1⟩ := hB
  rw [ht] at hP1
  have hK1 := va_K.moved hvm.symm hK1
  obtain ⟨hP, hD⟩ := va_join (wr := [(x_slots, .inl (zk, 4, .inr (.inr (.inr (.inr (va_up (va_up (va_up (va_up (fun _ => none) 0 (some s0)) 1 (some s1)) 2 (some s2)) 3 (some s3))))))), (s0, .inr (5, [.ref y0, .int 0, .int 0, .int 0])), (s1, .inr (5, [.ref y1, .int 0, .int 0, .int 0]))]) (w1 := [(h0, .inr (8, [.ref x_tape, .ref x_reader, .ref x_current, .ref x_images, .ref x_kept, .ref x_slots, .ref x_diary, .ref x_base, .ref x_trial, .ref x_plan, .ref x_orders, .ref x_unanswered, .int 0, .int 0, .int (-1)]))]) hP hD [0] [1, 2, 3] rfl rfl (by decide) (by decide) hk1 hFc hP1 hD1
  clear hPc hDc hKc hFc
  generalize H1 = H at hP hS ⊢
  have hP : va_P (dC, dI) vwCl [(x_slots, .inl (zk, 4, .inr (.inr (.inr (.inr (va_up (va_up (va_up (va_up (fun _ => none) 0 (some s0)) 1 (some s1)) 2 (some s2)) 3 (some s3))))))), (s0, .inr (5, [.ref y0, .int 0, .int 0, .int 0])), (s1, .inr (5, [.ref y1, .int 0, .int 0, .int 0])), (h0, .inr (8, [.ref x_tape, .ref x_reader, .ref x_current, .ref x_images, .ref x_kept, .ref x_slots, .ref x_diary, .ref x_base, .ref x_trial, .ref x_plan, .ref x_orders, .ref x_unanswered, .int 0, .int 0, .int (-1)]))] H := hP
  have hD : va_D A [(x_slots, .inl (zk, 4, .inr (.inr (.inr (.inr (va_up (va_up (va_up (va_up (fun _ => none) 0 (some s0)) 1 (some s1)) 2 (some s2)) 3 (some s3))))))), (s0, .inr (5, [.ref y0, .int 0, .int 0, .int 0])), (s1, .inr (5, [.ref y1, .int 0, .int 0, .int 0])), (h0, .inr (8, [.ref x_tape, .ref x_reader, .ref x_current, .ref x_images, .ref x_kept, .ref x_slots, .ref x_diary, .ref x_base, .ref x_trial, .ref x_plan, .ref x_orders, .ref x_unanswered, .int 0, .int 0, .int (-1)]))] := hD
  have hw : r_1 = 1 := hw
  subst hw
  refine lv_if_eq (tgt := 16) hx hb dX8_paste_5 (by decide) (fun c_2 => absurd c_2 (by decide)) (fun c_2 => ?_)
  refine lv_aload_n hx hb dX8_paste_8 rfl (lv_at hl 0 rfl) ?_
  refine lv_iload_n hx hb dX8_paste_9 rfl (lv_at hl 3 rfl) ?_
  have hPc := hP.sub (ws' := [(h0, .inr (8, [.ref x_tape, .ref x_reader, .ref x_current, .ref x_images, .ref x_kept, .ref x_slots, .ref x_diary, .ref x_base, .ref x_trial, .ref x_plan, .ref x_orders, .ref x_unanswered, .int 0, .int 0, .int (-1)]))]) [3] rfl
  have hDc := hD.sub (ws' := [(h0, .inr (8, [.ref x_tape, .ref x_reader, .ref x_current, .ref x_images, .ref x_kept, .ref x_slots, .ref x_diary, .ref x_base, .ref x_trial, .ref x_plan, .ref x_orders, .ref x_unanswered, .int 0, .int 0, .int (-1)]))]) [3] (by decide) rfl
  have hKc := hK.sub (tys' := []) [] rfl
  have hFc := va_free (wc := [(h0, .inr (8, [.ref x_tape, .ref x_reader, .ref x_current, .ref x_images, .ref x_kept, .ref x_slots, .ref x_diary, .ref x_base, .ref x_trial, .ref x_plan, .ref x_orders, .ref x_unanswered, .int 0, .int 0, .int (-1)]))]) hD hS hA [3] rfl
  refine va_calli (va_runV (As := [.int 1]) (rest := []) ⟨hx, hb, hml, hown, hts⟩ (c_isSlot1 l dC dI H.size h0 x_tape x_reader x_current x_images x_kept x_slots x_diary x_base x_trial x_plan x_orders x_unanswered ) (cwV 1 hts (goodV w_1288 w_1289 w_1290 w_2 w_1291) rfl rfl rfl hdV_X8_isSlot ⟨Nat.le_of_ble_eq_true rfl, Nat.le_of_ble_eq_true rfl⟩) ⟨fun a U g mk q => by obtain ⟨q0, q1, qP, qK, qD⟩ := q; exact ⟨q0, q1, qP, va_K.moved (u := U) (U := U.calling g mk a) (Vm.Alike.refl U.vm) qK, qD⟩, va_recv hKc hPc (ci := 8) (q0 := 0) rfl rfl, fun U hU hW => ⟨rfl, by rw [hU], by rw [hU]; exact hPc, va_K.moved hW.alike hKc, hDc.weaken (fun _ _ _ _ => trivial)⟩⟩ rfl rfl hl.1 rfl (lv_room (Nat.le_of_ble_eq_true rfl)) dX8_paste_10 ⟨Nat.le_of_ble_eq_true rfl, Nat.le_of_ble_eq_true rfl⟩) hS (fun q _ h => hFc q h) hFc (fun r_3 u t H1 locs ht hvm hw hB hz1 hk1 hS => ?_)
  obtain ⟨hP1, hK1, hD1⟩ := hB
  rw [ht] at hP1
  have hK1 := va_K.moved hvm.symm hK1
  obtain ⟨hP, hD⟩ := va_join (wr := [(x_slots, .inl (zk, 4, .inr (.inr (.inr (.inr (va_up (va_up (va_up (va_up (fun _ => none) 0 (some s0)) 1 (some s1)) 2 (some s2)) 3 (some s3))))))), (s0, .inr (5, [.ref y0, .int 0, .int 0, .int 0])), (s1, .inr (5, [.ref y1, .int 0, .int 0, .int 0]))]) (w1 := [(h0, .inr (8, [.ref x_tape, .ref x_reader, .ref x_current, .ref x_images, .ref x_kept, .ref x_slots, .ref x_diary, .ref x_base, .ref x_trial, .ref x_plan, .ref x_orders, .ref x_unanswered, .int 0, .int 0, .int (-1)]))]) hP hD [3] [0, 1, 2] rfl rfl (by decide) (by decide) hk1 hFc hP1 hD1
  clear hPc hDc hKc hFc
  generalize H1 = H at hP hS ⊢
  have hP : va_P (dC, dI) vwCl [(x_slots, .inl (zk, 4, .inr (.inr (.inr (.inr (va_up (va_up (va_up (va_up (fun _ => none) 0 (some s0)) 1 (some s1)) 2 (some s2)) 3 (some s3))))))), (s0, .inr (5, [.ref y0, .int 0, .int 0, .int 0])), (s1, .inr (5, [.ref y1, .int 0, .int 0, .int 0])), (h0, .inr (8, [.ref x_tape, .ref x_reader, .ref x_current, .ref x_images, .ref x_kept, .ref x_slots, .ref x_diary, .ref x_base, .ref x_trial, .ref x_plan, .ref x_orders, .ref x_unanswered, .int 0, .int 0, .int (-1)]))] H := hP
  have hD : va_D A [(x_slots, .inl (zk, 4, .inr (.inr (.inr (.inr (va_up (va_up (va_up (va_up (fun _ => none) 0 (some s0)) 1 (some s1)) 2 (some s2)) 3 (some s3))))))), (s0, .inr (5, [.ref y0, .int 0, .int 0, .int 0])), (s1, .inr (5, [.ref y1, .int 0, .int 0, .int 0])), (h0, .inr (8, [.ref x_tape, .ref x_reader, .ref x_current, .ref x_images, .ref x_kept, .ref x_slots, .ref x_diary, .ref x_base, .ref x_trial, .ref x_plan, .ref x_orders, .ref x_unanswered, .int 0, .int 0, .int (-1)]))] := hD
  have hw : r_3 = 1 := hw
  subst hw
  refine lv_if_ne (tgt := 19) hx hb dX8_paste_13 (by decide) (fun c_4 => ?_) (fun c_4 => absurd c_4 (by decide))
  refine lv_aload_n hx hb dX8_paste_19 rfl (lv_at hl 0 rfl) ?_
  refine va_get (D := (dC, dI)) (ci := 8) (v := .ref x_slots) (C := RX8) (T := TX8) (N := 15) hx hb hts inA8 hown hK hP 3 rfl rfl 5 (by decide) (hts _ w_29) (fun _ h9 => h9) rfl dX8_paste_20 ?_
  refine lv_iload_n hx hb dX8_paste_23 rfl (lv_at hl 1 rfl) ?_
  refine va_aldq hx hb hK hP 0 0 rfl rfl (show vp_in 0 4 from (by unfold vp_in; decide)) dX8_paste_24 ?_
  refine W.eq (g2 := F0 m 25 ls [.ref s0]) rfl ?_
  refine lv_astore (lv' := [(6, .ref s0), (0, .ref h0), (1, .int 0), (2, .int b), (3, .int 1), (4, .int a), (5, .int g_)]) hx hb dX8_paste_25 hl (by decide) rfl (fun ls hl => ?_)
  refine lv_aload_n hx hb dX8_paste_27 rfl (lv_at hl 1 rfl) ?_
  refine va_get (D := (dC, dI)) (ci := 8) (v := .ref x_slots) (C := RX8) (T := TX8) (N := 15) hx hb hts inA8 hown hK hP 3 rfl rfl 5 (by decide) (hts _ w_29) (fun _ h9 => h9) rfl dX8_paste_28 ?_
  refine lv_iload_n hx hb dX8_paste_31 rfl (lv_at hl 4 rfl) ?_
  refine va_aldq hx hb hK hP 0 0 rfl rfl (show vp_in 1 4 from (by unfold vp_in; decide)) dX8_paste_32 ?_
  refine W.eq (g2 := F0 m 33 ls [.ref s1]) rfl ?_
  refine lv_astore (lv' := [(7, .ref s1), (6, .ref s0), (0, .ref h0), (1, .int 0), (2, .int b), (3, .int 1), (4, .int a), (5, .int g_)]) hx hb dX8_paste_33 hl (by decide) rfl (fun ls hl => ?_)
  refine lv_aload hx hb dX8_paste_35 (lv_at hl 1 rfl) ?_
  refine va_get (D := (dC, dI)) (ci := 5) (v := .int 0) (C := RX5) (T := TX5) (N := 4) hx hb hts inA5 hown hK hP 1 rfl rfl 1 (by decide) (hts _ w_1283) (fun _ h9 => h9) rfl dX8_paste_37 ?_
  refine lv_if_eq (tgt := 51) hx hb dX8_paste_40 (by decide) (fun c_5 => ?_) (fun c_5 => absurd (by decide) c_5)
  refine lv_bipush (v := (-6)) hx hb dX8_paste_51 (by decide) ?_
  exact W.iret (v := (-6)) hx hb hr (fun t ht hW => ⟨⟨(-6), (), rfl, rfl, trivial⟩, hS.F ht⟩) hS.2.2 dX8_paste_53
set_option maxHeartbeats 4000000 in
set_option maxRecDepth 100000 in
theorem x_paste02 (l : Launch) (dC : Nat → ClassId) (dI : Nat → Nat → Nat) (sz : Nat) (h0 : Nat) (x_tape : Nat) (x_reader : Nat) (x_current : Nat) (x_images : Nat) (x_kept : Nat) (x_slots : Nat) (x_diary : Nat) (x_base : Nat) (x_trial : Nat) (x_plan : Nat) (x_orders : Nat) (x_unanswered : Nat) (s0 : Nat) (s1 : Nat) (s2 : Nat) (s3 : Nat) (y0 : Nat) (y1 : Nat) (y2 : Nat) (y3 : Nat) (zk : ClassId) (b : Int32) (a : Int32) (g_ : Int32)  : Met l yX8_paste (.code yX8_paste cX8_paste 8 (some .int) :: ALLW) ({ frames := 1, cells := 0, slots := 0, locals := 21 }) (va_Pc [.ref h0, .int 0, .int b, .int 2, .int a, .int g_] (fun U => U.heap.size = sz ∧ va_P (dC, dI) vwCl [(h0, .inr (8, [.ref x_tape, .ref x_reader, .ref x_current, .ref x_images, .ref x_kept, .ref x_slots, .ref x_diary, .ref x_base, .ref x_trial, .ref x_plan, .ref x_orders, .ref x_unanswered, .int 0, .int 0, .int (-1)])), (x_slots, .inl (zk, 4, .inr (.inr (.inr (.inr (va_up (va_up (va_up (va_up (fun _ => none) 0 (some s0)) 1 (some s1)) 2 (some s2)) 3 (some s3))))))), (s0, .inr (5, [.ref y0, .int 0, .int 0, .int 0])), (s2, .inr (5, [.ref y2, .int 0, .int 0, .int 0]))] U.heap ∧ va_K (dC, dI) vwCl [(zk, .object RX5)] U ∧ va_D (fun _ => True) [(h0, .inr (8, [.ref x_tape, .ref x_reader, .ref x_current, .ref x_images, .ref x_kept, .ref x_slots, .ref x_diary, .ref x_base, .ref x_trial, .ref x_plan, .ref x_orders, .ref x_unanswered, .int 0, .int 0, .int (-1)])), (x_slots, .inl (zk, 4, .inr (.inr (.inr (.inr (va_up (va_up (va_up (va_up (fun _ => none) 0 (some s0)) 1 (some s1)) 2 (some s2)) 3 (some s3))))))), (s0, .inr (5, [.ref y0, .int 0, .int 0, .int 0])), (s2, .inr (5, [.ref y2, .int 0, .int 0, .int 0]))])) (va_Qi (fun (r : Int32) (_ : Unit) => r = (-6)) (fun (_ : Unit) (_ : State) => True) (va_A [(h0, .inr (8, [.ref x_tape, .ref x_reader, .ref x_current, .ref x_images, .ref x_kept, .ref x_slots, .ref x_diary, .ref x_base, .ref x_trial, .ref x_plan, .ref x_orders, .ref x_unanswered, .int 0, .int 0, .int (-1)])), (x_slots, .inl (zk, 4, .inr (.inr (.inr (.inr (va_up (va_up (va_up (va_up (fun _ => none) 0 (some s0)) 1 (some s1)) 2 (some s2)) 3 (some s3))))))), (s0, .inr (5, [.ref y0, .int 0, .int 0, .int 0])), (s2, .inr (5, [.ref y2, .int 0, .int 0, .int 0]))] sz)) 0 0 (va_A [(h0, .inr (8, [.ref x_tape, .ref x_reader, .ref x_current, .ref x_images, .ref x_kept, .ref x_slots, .ref x_diary, .ref x_base, .ref x_trial, .ref x_plan, .ref x_orders, .ref x_unanswered, .int 0, .int 0, .int (-1)])), (x_slots, .inl (zk, 4, .inr (.inr (.inr (.inr (va_up (va_up (va_up (va_up (fun _ => none) 0 (some s0)) 1 (some s1)) 2 (some s2)) 3 (some s3))))))), (s0, .inr (5, [.ref y0, .int 0, .int 0, .int 0])), (s2, .inr (5, [.ref y2, .int 0, .int 0, .int 0]))] sz) := by
  refine Met.ofW (cc := cX8_paste) (maxL := 8) (ret := (some .int)) (by decide) rfl ?_
  intro p e s m args below meth c s₁ B hml hv
  obtain ⟨rfl, hsz, hP, hK, hD0⟩ := hv
  have hx := B.exec
  have hb := B.bytes
  have hr := B.returns
  have hts0 := atoms_spec (ws := (.code yX8_paste cX8_paste 8 (some .int) :: ALLW)) B.pre
  have hts := fun (w : Cond) (h : w ∈ ALLW) => hts0 w (List.mem_cons_of_mem _ h)
  have hown : s.vm.findClass RX8 = some m.cls := findClass_of_methodNamed B.named
  have hlocks := B.notSynchronized
  subst hsz
  have hD := hD0.self (sz := s.heap.size)
  generalize hAe : va_A [(h0, .inr (8, [.ref x_tape, .ref x_reader, .ref x_current, .ref x_images, .ref x_kept, .ref x_slots, .ref x_diary, .ref x_base, .ref x_trial, .ref x_plan, .ref x_orders, .ref x_unanswered, .int 0, .int 0, .int (-1)])), (x_slots, .inl (zk, 4, .inr (.inr (.inr (.inr (va_up (va_up (va_up (va_up (fun _ => none) 0 (some s0)) 1 (some s1)) 2 (some s2)) 3 (some s3))))))), (s0, .inr (5, [.ref y0, .int 0, .int 0, .int 0])), (s2, .inr (5, [.ref y2, .int 0, .int 0, .int 0]))] s.heap.size = A at hD ⊢
  have hA : ∀ q : Nat, s.heap.size ≤ q → A q := fun q h => by rw [← hAe]; exact Or.inr h
  have hS : va_S A s.heap s.heap [] := va_S.rf
  have hP : va_P (dC, dI) vwCl [(h0, .inr (8, [.ref x_tape, .ref x_reader, .ref x_current, .ref x_images, .ref x_kept, .ref x_slots, .ref x_diary, .ref x_base, .ref x_trial, .ref x_plan, .ref x_orders, .ref x_unanswered, .int 0, .int 0, .int (-1)])), (x_slots, .inl (zk, 4, .inr (.inr (.inr (.inr (va_up (va_up (va_up (va_up (fun _ => none) 0 (some s0)) 1 (some s1)) 2 (some s2)) 3 (some s3))))))), (s0, .inr (5, [.ref y0, .int 0, .int 0, .int 0])), (s2, .inr (5, [.ref y2, .int 0, .int 0, .int 0]))] s.heap := hP
  have hl := lv_entry ([.ref h0, .int 0, .int b, .int 2, .int a, .int g_]) (n := 8) (Nat.le_of_ble_eq_true rfl)
  rw [lg_entry_eq]
  generalize (lg_sl ([.ref h0, .int 0, .int b, .int 2, .int a, .int g_]) ++ List.replicate (8 - (lg_sl ([.ref h0, .int 0, .int b, .int 2, .int a, .int g_])).length) Slot.unset).toArray = ls at hl ⊢
  have hl : lv_has ls 8 [(0, .ref h0), (1, .int 0), (2, .int b), (3, .int 2), (4, .int a), (5, .int g_)] := hl
  refine lv_aload_n hx hb dX8_paste_0 rfl (lv_at hl 0 rfl) ?_
  refine lv_iload_n hx hb dX8_paste_1 rfl (lv_at hl 1 rfl) ?_
  have hPc := hP.sub (ws' := [(h0, .inr (8, [.ref x_tape, .ref x_reader, .ref x_current, .ref x_images, .ref x_kept, .ref x_slots, .ref x_diary, .ref x_base, .ref x_trial, .ref x_plan, .ref x_orders, .ref x_unanswered, .int 0, .int 0, .int (-1)]))]) [0] rfl
  have hDc := hD.sub (ws' := [(h0, .inr (8, [.ref x_tape, .ref x_reader, .ref x_current, .ref x_images, .ref x_kept, .ref x_slots, .ref x_diary, .ref x_base, .ref x_trial, .ref x_plan, .ref x_orders, .ref x_unanswered, .int 0, .int 0, .int (-1)]))]) [0] (by decide) rfl
  have hKc := hK.sub (tys' := []) [] rfl
  have hFc := va_free (wc := [(h0, .inr (8, [.ref x_tape, .ref x_reader, .ref x_current, .ref x_images, .ref x_kept, .ref x_slots, .ref x_diary, .ref x_base, .ref x_trial, .ref x_plan, .ref x_orders, .ref x_unanswered, .int 0, .int 0, .int (-1)]))]) hD hS hA [0] rfl
  refine va_calli (va_runV (As := [.int 0]) (rest := []) ⟨hx, hb, hml, hown, hts⟩ (c_isSlot0 l dC dI s.heap.size h0 x_tape x_reader x_current x_images x_kept x_slots x_diary x_base x_trial x_plan x_orders x_unanswered ) (cwV 1 hts (goodV w_1288 w_1289 w_1290 w_2 w_1291) rfl rfl rfl hdV_X8_isSlot ⟨Nat.le_of_ble_eq_true rfl, Nat.le_of_ble_eq_true rfl⟩) ⟨fun a U g mk q => by obtain ⟨q0, q1, qP, qK, qD⟩ := q; exact ⟨q0, q1, qP, va_K.moved (u := U) (U := U.calling g mk a) (Vm.Alike.refl U.vm) qK, qD⟩, va_recv hKc hPc (ci := 8) (q0 := 0) rfl rfl, fun U hU hW => ⟨rfl, by rw [hU], by rw [hU]; exact hPc, va_K.moved hW.alike hKc, hDc.weaken (fun _ _ _ _ => trivial)⟩⟩ rfl rfl hl.1 rfl (lv_room (Nat.le_of_ble_eq_true rfl)) dX8_paste_2 ⟨Nat.le_of_ble_eq_true rfl, Nat.le_of_ble_eq_true rfl⟩) hS (fun q _ h => hFc q h) hFc (fun r_1 u t H1 locs ht hvm hw hB hz1 hk1 hS => ?_)
  obtain ⟨hP1, hK1, hD1⟩ := hB
  rw [ht] at hP1
  have hK1 := va_K.moved hvm.symm hK1
  obtain ⟨hP, hD⟩ := va_join (wr := [(x_slots, .inl (zk, 4, .inr (.inr (.inr (.inr (va_up (va_up (va_up (va_up (fun _ => none) 0 (some s0)) 1 (some s1)) 2 (some s2)) 3 (some s3))))))), (s0, .inr (5, [.ref y0, .int 0, .int 0, .int 0])), (s2, .inr (5, [.ref y2, .int 0, .int 0, .int 0]))]) (w1 := [(h0, .inr (8, [.ref x_tape, .ref x_reader, .ref x_current, .ref x_images, .ref x_kept, .ref x_slots, .ref x_diary, .ref x_base, .ref x_trial, .ref x_plan, .ref x_orders, .ref x_unanswered, .int 0, .int 0, .int (-1)]))]) hP hD [0] [1, 2, 3] rfl rfl (by decide) (by decide) hk1 hFc hP1 hD1
  clear hPc hDc hKc hFc
  generalize H1 = H at hP hS ⊢
  have hP : va_P (dC, dI) vwCl [(x_slots, .inl (zk, 4, .inr (.inr (.inr (.inr (va_up (va_up (va_up (va_up (fun _ => none) 0 (some s0)) 1 (some s1)) 2 (some s2)) 3 (some s3))))))), (s0, .inr (5, [.ref y0, .int 0, .int 0, .int 0])), (s2, .inr (5, [.ref y2, .int 0, .int 0, .int 0])), (h0, .inr (8, [.ref x_tape, .ref x_reader, .ref x_current, .ref x_images, .ref x_kept, .ref x_slots, .ref x_diary, .ref x_base, .ref x_trial, .ref x_plan, .ref x_orders, .ref x_unanswered, .int 0, .int 0, .int (-1)]))] H := hP
  have hD : va_D A [(x_slots, .inl (zk, 4, .inr (.inr (.inr (.inr (va_up (va_up (va_up (va_up (fun _ => none) 0 (some s0)) 1 (some s1)) 2 (some s2)) 3 (some s3))))))), (s0, .inr (5, [.ref y0, .int 0, .int 0, .int 0])), (s2, .inr (5, [.ref y2, .int 0, .int 0, .int 0])), (h0, .inr (8, [.ref x_tape, .ref x_reader, .ref x_current, .ref x_images, .ref x_kept, .ref x_slots, .ref x_diary, .ref x_base, .ref x_trial, .ref x_plan, .ref x_orders, .ref x_unanswered, .int 0, .int 0, .int (-1)]))] := hD
  have hw : r_1 = 1 := hw
  subst hw
  refine lv_if_eq (tgt := 16) hx hb dX8_paste_5 (by decide) (fun c_2 => absurd c_2 (by decide)) (fun c_2 => ?_)
  refine lv_aload_n hx hb dX8_paste_8 rfl (lv_at hl 0 rfl) ?_
  refine lv_iload_n hx hb dX8_paste_9 rfl (lv_at hl 3 rfl) ?_
  have hPc := hP.sub (ws' := [(h0, .inr (8, [.ref x_tape, .ref x_reader, .ref x_current, .ref x_images, .ref x_kept, .ref x_slots, .ref x_diary, .ref x_base, .ref x_trial, .ref x_plan, .ref x_orders, .ref x_unanswered, .int 0, .int 0, .int (-1)]))]) [3] rfl
  have hDc := hD.sub (ws' := [(h0, .inr (8, [.ref x_tape, .ref x_reader, .ref x_current, .ref x_images, .ref x_kept, .ref x_slots, .ref x_diary, .ref x_base, .ref x_trial, .ref x_plan, .ref x_orders, .ref x_unanswered, .int 0, .int 0, .int (-1)]))]) [3] (by decide) rfl
  have hKc := hK.sub (tys' := []) [] rfl
  have hFc := va_free (wc := [(h0, .inr (8, [.ref x_tape, .ref x_reader, .ref x_current, .ref x_images, .ref x_kept, .ref x_slots, .ref x_diary, .ref x_base, .ref x_trial, .ref x_plan, .ref x_orders, .ref x_unanswered, .int 0, .int 0, .int (-1)]))]) hD hS hA [3] rfl
  refine va_calli (va_runV (As := [.int 2]) (rest := []) ⟨hx, hb, hml, hown, hts⟩ (c_isSlot2 l dC dI H.size h0 x_tape x_reader x_current x_images x_kept x_slots x_diary x_base x_trial x_plan x_orders x_unanswered ) (cwV 1 hts (goodV w_1288 w_1289 w_1290 w_2 w_1291) rfl rfl rfl hdV_X8_isSlot ⟨Nat.le_of_ble_eq_true rfl, Nat.le_of_ble_eq_true rfl⟩) ⟨fun a U g mk q => by obtain ⟨q0, q1, qP, qK, qD⟩ := q; exact ⟨q0, q1, qP, va_K.moved (u := U) (U := U.calling g mk a) (Vm.Alike.refl U.vm) qK, qD⟩, va_recv hKc hPc (ci := 8) (q0 := 0) rfl rfl, fun U hU hW => ⟨rfl, by rw [hU], by rw [hU]; exact hPc, va_K.moved hW.alike hKc, hDc.weaken (fun _ _ _ _ => trivial)⟩⟩ rfl rfl hl.1 rfl (lv_room (Nat.le_of_ble_eq_true rfl)) dX8_paste_10 ⟨Nat.le_of_ble_eq_true rfl, Nat.le_of_ble_eq_true rfl⟩) hS (fun q _ h => hFc q h) hFc (fun r_3 u t H1 locs ht hvm hw hB hz1 hk1 hS => ?_)
  obtain ⟨hP1, hK1, hD1⟩ := hB
  rw [ht] at hP1
  have hK1 := va_K.moved hvm.symm hK1
  obtain ⟨hP, hD⟩ := va_join (wr := [(x_slots, .inl (zk, 4, .inr (.inr (.inr (.inr (va_up (va_up (va_up (va_up (fun _ => none) 0 (some s0)) 1 (some s1)) 2 (some s2)) 3 (some s3))))))), (s0, .inr (5, [.ref y0, .int 0, .int 0, .int 0])), (s2, .inr (5, [.ref y2, .int 0, .int 0, .int 0]))]) (w1 := [(h0, .inr (8, [.ref x_tape, .ref x_reader, .ref x_current, .ref x_images, .ref x_kept, .ref x_slots, .ref x_diary, .ref x_base, .ref x_trial, .ref x_plan, .ref x_orders, .ref x_unanswered, .int 0, .int 0, .int (-1)]))]) hP hD [3] [0, 1, 2] rfl rfl (by decide) (by decide) hk1 hFc hP1 hD1
  clear hPc hDc hKc hFc
  generalize H1 = H at hP hS ⊢
  have hP : va_P (dC, dI) vwCl [(x_slots, .inl (zk, 4, .inr (.inr (.inr (.inr (va_up (va_up (va_up (va_up (fun _ => none) 0 (some s0)) 1 (some s1)) 2 (some s2)) 3 (some s3))))))), (s0, .inr (5, [.ref y0, .int 0, .int 0, .int 0])), (s2, .inr (5, [.ref y2, .int 0, .int 0, .int 0])), (h0, .inr (8, [.ref x_tape, .ref x_reader, .ref x_current, .ref x_images, .ref x_kept, .ref x_slots, .ref x_diary, .ref x_base, .ref x_trial, .ref x_plan, .ref x_orders, .ref x_unanswered, .int 0, .int 0, .int (-1)]))] H := hP
  have hD : va_D A [(x_slots, .inl (zk, 4, .inr (.inr (.inr (.inr (va_up (va_up (va_up (va_up (fun _ => none) 0 (some s0)) 1 (some s1)) 2 (some s2)) 3 (some s3))))))), (s0, .inr (5, [.ref y0, .int 0, .int 0, .int 0])), (s2, .inr (5, [.ref y2, .int 0, .int 0, .int 0])), (h0, .inr (8, [.ref x_tape, .ref x_reader, .ref x_current, .ref x_images, .ref x_kept, .ref x_slots, .ref x_diary, .ref x_base, .ref x_trial, .ref x_plan, .ref x_orders, .ref x_unanswered, .int 0, .int 0, .int (-1)]))] := hD
  have hw : r_3 = 1 := hw
  subst hw
  refine lv_if_ne (tgt := 19) hx hb dX8_paste_13 (by decide) (fun c_4 => ?_) (fun c_4 => absurd c_4 (by decide))
  refine lv_aload_n hx hb dX8_paste_19 rfl (lv_at hl 0 rfl) ?_
  refine va_get (D := (dC, dI)) (ci := 8) (v := .ref x_slots) (C := RX8) (T := TX8) (N := 15) hx hb hts inA8 hown hK hP 3 rfl rfl 5 (by decide) (hts _ w_29) (fun _ h9 => h9) rfl dX8_paste_20 ?_
  refine lv_iload_n hx hb dX8_paste_23 rfl (lv_at hl 1 rfl) ?_
  refine va_aldq hx hb hK hP 0 0 rfl rfl (show vp_in 0 4 from (by unfold vp_in; decide)) dX8_paste_24 ?_
  refine W.eq (g2 := F0 m 25 ls [.ref s0]) rfl ?_
  refine lv_astore (lv' := [(6, .ref s0), (0, .ref h0), (1, .int 0), (2, .int b), (3, .int 2), (4, .int a), (5, .int g_)]) hx hb dX8_paste_25 hl (by decide) rfl (fun ls hl => ?_)
  refine lv_aload_n hx hb dX8_paste_27 rfl (lv_at hl 1 rfl) ?_
  refine va_get (D := (dC, dI)) (ci := 8) (v := .ref x_slots) (C := RX8) (T := TX8) (N := 15) hx hb hts inA8 hown hK hP 3 rfl rfl 5 (by decide) (hts _ w_29) (fun _ h9 => h9) rfl dX8_paste_28 ?_
  refine lv_iload_n hx hb dX8_paste_31 rfl (lv_at hl 4 rfl) ?_
  refine va_aldq hx hb hK hP 0 0 rfl rfl (show vp_in 2 4 from (by unfold vp_in; decide)) dX8_paste_32 ?_
  refine W.eq (g2 := F0 m 33 ls [.ref s2]) rfl ?_
  refine lv_astore (lv' := [(7, .ref s2), (6, .ref s0), (0, .ref h0), (1, .int 0), (2, .int b), (3, .int 2), (4, .int a), (5, .int g_)]) hx hb dX8_paste_33 hl (by decide) rfl (fun ls hl => ?_)
  refine lv_aload hx hb dX8_paste_35 (lv_at hl 1 rfl) ?_
  refine va_get (D := (dC, dI)) (ci := 5) (v := .int 0) (C := RX5) (T := TX5) (N := 4) hx hb hts inA5 hown hK hP 1 rfl rfl 1 (by decide) (hts _ w_1283) (fun _ h9 => h9) rfl dX8_paste_37 ?_
  refine lv_if_eq (tgt := 51) hx hb dX8_paste_40 (by decide) (fun c_5 => ?_) (fun c_5 => absurd (by decide) c_5)
  refine lv_bipush (v := (-6)) hx hb dX8_paste_51 (by decide) ?_
  exact W.iret (v := (-6)) hx hb hr (fun t ht hW => ⟨⟨(-6), (), rfl, rfl, trivial⟩, hS.F ht⟩) hS.2.2 dX8_paste_53
set_option maxHeartbeats 4000000 in
set_option maxRecDepth 100000 in
theorem x_paste03 (l : Launch) (dC : Nat → ClassId) (dI : Nat → Nat → Nat) (sz : Nat) (h0 : Nat) (x_tape : Nat) (x_reader : Nat) (x_current : Nat) (x_images : Nat) (x_kept : Nat) (x_slots : Nat) (x_diary : Nat) (x_base : Nat) (x_trial : Nat) (x_plan : Nat) (x_orders : Nat) (x_unanswered : Nat) (s0 : Nat) (s1 : Nat) (s2 : Nat) (s3 : Nat) (y0 : Nat) (y1 : Nat) (y2 : Nat) (y3 : Nat) (zk : ClassId) (b : Int32) (a : Int32) (g_ : Int32)  : Met l yX8_paste (.code yX8_paste cX8_paste 8 (some .int) :: ALLW) ({ frames := 1, cells := 0, slots := 0, locals := 21 }) (va_Pc [.ref h0, .int 0, .int b, .int 3, .int a, .int g_] (fun U => U.heap.size = sz ∧ va_P (dC, dI) vwCl [(h0, .inr (8, [.ref x_tape, .ref x_reader, .ref x_current, .ref x_images, .ref x_kept, .ref x_slots, .ref x_diary, .ref x_base, .ref x_trial, .ref x_plan, .ref x_orders, .ref x_unanswered, .int 0, .int 0, .int (-1)])), (x_slots, .inl (zk, 4, .inr (.inr (.inr (.inr (va_up (va_up (va_up (va_up (fun _ => none) 0 (some s0)) 1 (some s1)) 2 (some s2)) 3 (some s3))))))), (s0, .inr (5, [.ref y0, .int 0, .int 0, .int 0])), (s3, .inr (5, [.ref y3, .int 0, .int 0, .int 0]))] U.heap ∧ va_K (dC, dI) vwCl [(zk, .object RX5)] U ∧ va_D (fun _ => True) [(h0, .inr (8, [.ref x_tape, .ref x_reader, .ref x_current, .ref x_images, .ref x_kept, .ref x_slots, .ref x_diary, .ref x_base, .ref x_trial, .ref x_plan, .ref x_orders, .ref x_unanswered, .int 0, .int 0, .int (-1)])), (x_slots, .inl (zk, 4, .inr (.inr (.inr (.inr (va_up (va_up (va_up (va_up (fun _ => none) 0 (some s0)) 1 (some s1)) 2 (some s2)) 3 (some s3))))))), (s0, .inr (5, [.ref y0, .int 0, .int 0, .int 0])), (s3, .inr (5, [.ref y3, .int 0, .int 0, .int 0]))])) (va_Qi (fun (r : Int32) (_ : Unit) => r = (-6)) (fun (_ : Unit) (_ : State) => True) (va_A [(h0, .inr (8, [.ref x_tape, .ref x_reader, .ref x_current, .ref x_images, .ref x_kept, .ref x_slots, .ref x_diary, .ref x_base, .ref x_trial, .ref x_plan, .ref x_orders, .ref x_unanswered, .int 0, .int 0, .int (-1)])), (x_slots, .inl (zk, 4, .inr (.inr (.inr (.inr (va_up (va_up (va_up (va_up (fun _ => none) 0 (some s0)) 1 (some s1)) 2 (some s2)) 3 (some s3))))))), (s0, .inr (5, [.ref y0, .int 0, .int 0, .int 0])), (s3, .inr (5, [.ref y3, .int 0, .int 0, .int 0]))] sz)) 0 0 (va_A [(h0, .inr (8, [.ref x_tape, .ref x_reader, .ref x_current, .ref x_images, .ref x_kept, .ref x_slots, .ref x_diary, .ref x_base, .ref x_trial, .ref x_plan, .ref x_orders, .ref x_unanswered, .int 0, .int 0, .int (-1)])), (x_slots, .inl (zk, 4, .inr (.inr (.inr (.inr (va_up (va_up (va_up (va_up (fun _ => none) 0 (some s0)) 1 (some s1)) 2 (some s2)) 3 (some s3))))))), (s0, .inr (5, [.ref y0, .int 0, .int 0, .int 0])), (s3, .inr (5, [.ref y3, .int 0, .int 0, .int 0]))] sz) := by
  refine Met.ofW (cc := cX8_paste) (maxL := 8) (ret := (some .int)) (by decide) rfl ?_
  intro p e s m args below meth c s₁ B hml hv
  obtain ⟨rfl, hsz, hP, hK, hD0⟩ := hv
  have hx := B.exec
  have hb := B.bytes
  have hr := B.returns
  have hts0 := atoms_spec (ws := (.code yX8_paste cX8_paste 8 (some .int) :: ALLW)) B.pre
  have hts := fun (w : Cond) (h : w ∈ ALLW) => hts0 w (List.mem_cons_of_mem _ h)
  have hown : s.vm.findClass RX8 = some m.cls := findClass_of_methodNamed B.named
  have hlocks := B.notSynchronized
  subst hsz
  have hD := hD0.self (sz := s.heap.size)
  generalize hAe : va_A [(h0, .inr (8, [.ref x_tape, .ref x_reader, .ref x_current, .ref x_images, .ref x_kept, .ref x_slots, .ref x_diary, .ref x_base, .ref x_trial, .ref x_plan, .ref x_orders, .ref x_unanswered, .int 0, .int 0, .int (-1)])), (x_slots, .inl (zk, 4, .inr (.inr (.inr (.inr (va_up (va_up (va_up (va_up (fun _ => none) 0 (some s0)) 1 (some s1)) 2 (some s2)) 3 (some s3))))))), (s0, .inr (5, [.ref y0, .int 0, .int 0, .int 0])), (s3, .inr (5, [.ref y3, .int 0, .int 0, .int 0]))] s.heap.size = A at hD ⊢
  have hA : ∀ q : Nat, s.heap.size ≤ q → A q := fun q h => by rw [← hAe]; exact Or.inr h
  have hS : va_S A s.heap s.heap [] := va_S.rf
  have hP : va_P (dC, dI) vwCl [(h0, .inr (8, [.ref x_tape, .ref x_reader, .ref x_current, .ref x_images, .ref x_kept, .ref x_slots, .ref x_diary, .ref x_base, .ref x_trial, .ref x_plan, .ref x_orders, .ref x_unanswered, .int 0, .int 0, .int (-1)])), (x_slots, .inl (zk, 4, .inr (.inr (.inr (.inr (va_up (va_up (va_up (va_up (fun _ => none) 0 (some s0)) 1 (some s1)) 2 (some s2)) 3 (some s3))))))), (s0, .inr (5, [.ref y0, .int 0, .int 0, .int 0])), (s3, .inr (5, [.ref y3, .int 0, .int 0, .int 0]))] s.heap := hP
  have hl := lv_entry ([.ref h0, .int 0, .int b, .int 3, .int a, .int g_]) (n := 8) (Nat.le_of_ble_eq_true rfl)
  rw [lg_entry_eq]
  generalize (lg_sl ([.ref h0, .int 0, .int b, .int 3, .int a, .int g_]) ++ List.replicate (8 - (lg_sl ([.ref h0, .int 0, .int b, .int 3, .int a, .int g_])).length) Slot.unset).toArray = ls at hl ⊢
  have hl : lv_has ls 8 [(0, .ref h0), (1, .int 0), (2, .int b), (3, .int 3), (4, .int a), (5, .int g_)] := hl
  refine lv_aload_n hx hb dX8_paste_0 rfl (lv_at hl 0 rfl) ?_
  refine lv_iload_n hx hb dX8_paste_1 rfl (lv_at hl 1 rfl) ?_
  have hPc := hP.sub (ws' := [(h0, .inr (8, [.ref x_tape, .ref x_reader, .ref x_current, .ref x_images, .ref x_kept, .ref x_slots, .ref x_diary, .ref x_base, .ref x_trial, .ref x_plan, .ref x_orders, .ref x_unanswered, .int 0, .int 0, .int (-1)]))]) [0] rfl
  have hDc := hD.sub (ws' := [(h0, .inr (8, [.ref x_tape, .ref x_reader, .ref x_current, .ref x_images, .ref x_kept, .ref x_slots, .ref x_diary, .ref x_base, .ref x_trial, .ref x_plan, .ref x_orders, .ref x_unanswered, .int 0, .int 0, .int (-1)]))]) [0] (by decide) rfl
  have hKc := hK.sub (tys' := []) [] rfl
  have hFc := va_free (wc := [(h0, .inr (8, [.ref x_tape, .ref x_reader, .ref x_current, .ref x_images, .ref x_kept, .ref x_slots, .ref x_diary, .ref x_base, .ref x_trial, .ref x_plan, .ref x_orders, .ref x_unanswered, .int 0, .int 0, .int (-1)]))]) hD hS hA [0] rfl
  refine va_calli (va_runV (As := [.int 0]) (rest := []) ⟨hx, hb, hml, hown, hts⟩ (c_isSlot0 l dC dI s.heap.size h0 x_tape x_reader x_current x_images x_kept x_slots x_diary x_base x_trial x_plan x_orders x_unanswered ) (cwV 1 hts (goodV w_1288 w_1289 w_1290 w_2 w_1291) rfl rfl rfl hdV_X8_isSlot ⟨Nat.le_of_ble_eq_true rfl, Nat.le_of_ble_eq_true rfl⟩) ⟨fun a U g mk q => by obtain ⟨q0, q1, qP, qK, qD⟩ := q; exact ⟨q0, q1, qP, va_K.moved (u := U) (U := U.calling g mk a) (Vm.Alike.refl U.vm) qK, qD⟩, va_recv hKc hPc (ci := 8) (q0 := 0) rfl rfl, fun U hU hW => ⟨rfl, by rw [hU], by rw [hU]; exact hPc, va_K.moved hW.alike hKc, hDc.weaken (fun _ _ _ _ => trivial)⟩⟩ rfl rfl hl.1 rfl (lv_room (Nat.le_of_ble_eq_true rfl)) dX8_paste_2 ⟨Nat.le_of_ble_eq_true rfl, Nat.le_of_ble_eq_true rfl⟩) hS (fun q _ h => hFc q h) hFc (fun r_1 u t H1 locs ht hvm hw hB hz1 hk1 hS => ?_)
  obtain ⟨hP1, hK1, hD1⟩ := hB
  rw [ht] at hP1
  have hK1 := va_K.moved hvm.symm hK1
  obtain ⟨hP, hD⟩ := va_join (wr := [(x_slots, .inl (zk, 4, .inr (.inr (.inr (.inr (va_up (va_up (va_up (va_up (fun _ => none) 0 (some s0)) 1 (some s1)) 2 (some s2)) 3 (some s3))))))), (s0, .inr (5, [.ref y0, .int 0, .int 0, .int 0])), (s3, .inr (5, [.ref y3, .int 0, .int 0, .int 0]))]) (w1 := [(h0, .inr (8, [.ref x_tape, .ref x_reader, .ref x_current, .ref x_images, .ref x_kept, .ref x_slots, .ref x_diary, .ref x_base, .ref x_trial, .ref x_plan, .ref x_orders, .ref x_unanswered, .int 0, .int 0, .int (-1)]))]) hP hD [0] [1, 2, 3] rfl rfl (by decide) (by decide) hk1 hFc hP1 hD1
  clear hPc hDc hKc hFc
  generalize H1 = H at hP hS ⊢
  have hP : va_P (dC, dI) vwCl [(x_slots, .inl (zk, 4, .inr (.inr (.inr (.inr (va_up (va_up (va_up (va_up (fun _ => none) 0 (some s0)) 1 (some s1)) 2 (some s2)) 3 (some s3))))))), (s0, .inr (5, [.ref y0, .int 0, .int 0, .int 0])), (s3, .inr (5, [.ref y3, .int 0, .int 0, .int 0])), (h0, .inr (8, [.ref x_tape, .ref x_reader, .ref x_current, .ref x_images, .ref x_kept, .ref x_slots, .ref x_diary, .ref x_base, .ref x_trial, .ref x_plan, .ref x_orders, .ref x_unanswered, .int 0, .int 0, .int (-1)]))] H := hP
  have hD : va_D A [(x_slots, .inl (zk, 4, .inr (.inr (.inr (.inr (va_up (va_up (va_up (va_up (fun _ => none) 0 (some s0)) 1 (some s1)) 2 (some s2)) 3 (some s3))))))), (s0, .inr (5, [.ref y0, .int 0, .int 0, .int 0])), (s3, .inr (5, [.ref y3, .int 0, .int 0, .int 0])), (h0, .inr (8, [.ref x_tape, .ref x_reader, .ref x_current, .ref x_images, .ref x_kept, .ref x_slots, .ref x_diary, .ref x_base, .ref x_trial, .ref x_plan, .ref x_orders, .ref x_unanswered, .int 0, .int 0, .int (-1)]))] := hD
  have hw : r_1 = 1 := hw
  subst hw
  refine lv_if_eq (tgt := 16) hx hb dX8_paste_5 (by decide) (fun c_2 => absurd c_2 (by decide)) (fun c_2 => ?_)
  refine lv_aload_n hx hb dX8_paste_8 rfl (lv_at hl 0 rfl) ?_
  refine lv_iload_n hx hb dX8_paste_9 rfl (lv_at hl 3 rfl) ?_
  have hPc := hP.sub (ws' := [(h0, .inr (8, [.ref x_tape, .ref x_reader, .ref x_current, .ref x_images, .ref x_kept, .ref x_slots, .ref x_diary, .ref x_base, .ref x_trial, .ref x_plan, .ref x_orders, .ref x_unanswered, .int 0, .int 0, .int (-1)]))]) [3] rfl
  have hDc := hD.sub (ws' := [(h0, .inr (8, [.ref x_tape, .ref x_reader, .ref x_current, .ref x_images, .ref x_kept, .ref x_slots, .ref x_diary, .ref x_base, .ref x_trial, .ref x_plan, .ref x_orders, .ref x_unanswered, .int 0, .int 0, .int (-1)]))]) [3] (by decide) rfl
  have hKc := hK.sub (tys' := []) [] rfl
  have hFc := va_free (wc := [(h0, .inr (8, [.ref x_tape, .ref x_reader, .ref x_current, .ref x_images, .ref x_kept, .ref x_slots, .ref x_diary, .ref x_base, .ref x_trial, .ref x_plan, .ref x_orders, .ref x_unanswered, .int 0, .int 0, .int (-1)]))]) hD hS hA [3] rfl
  refine va_calli (va_runV (As := [.int 3]) (rest := []) ⟨hx, hb, hml, hown, hts⟩ (c_isSlot3 l dC dI H.size h0 x_tape x_reader x_current x_images x_kept x_slots x_diary x_base x_trial x_plan x_orders x_unanswered ) (cwV 1 hts (goodV w_1288 w_1289 w_1290 w_2 w_1291) rfl rfl rfl hdV_X8_isSlot ⟨Nat.le_of_ble_eq_true rfl, Nat.le_of_ble_eq_true rfl⟩) ⟨fun a U g mk q => by obtain ⟨q0, q1, qP, qK, qD⟩ := q; exact ⟨q0, q1, qP, va_K.moved (u := U) (U := U.calling g mk a) (Vm.Alike.refl U.vm) qK, qD⟩, va_recv hKc hPc (ci := 8) (q0 := 0) rfl rfl, fun U hU hW => ⟨rfl, by rw [hU], by rw [hU]; exact hPc, va_K.moved hW.alike hKc, hDc.weaken (fun _ _ _ _ => trivial)⟩⟩ rfl rfl hl.1 rfl (lv_room (Nat.le_of_ble_eq_true rfl)) dX8_paste_10 ⟨Nat.le_of_ble_eq_true rfl, Nat.le_of_ble_eq_true rfl⟩) hS (fun q _ h => hFc q h) hFc (fun r_3 u t H1 locs ht hvm hw hB hz1 hk1 hS => ?_)
  obtain ⟨hP1, hK1, hD1⟩ := hB
  rw [ht] at hP1
  have hK1 := va_K.moved hvm.symm hK1
  obtain ⟨hP, hD⟩ := va_join (wr := [(x_slots, .inl (zk, 4, .inr (.inr (.inr (.inr (va_up (va_up (va_up (va_up (fun _ => none) 0 (some s0)) 1 (some s1)) 2 (some s2)) 3 (some s3))))))), (s0, .inr (5, [.ref y0, .int 0, .int 0, .int 0])), (s3, .inr (5, [.ref y3, .int 0, .int 0, .int 0]))]) (w1 := [(h0, .inr (8, [.ref x_tape, .ref x_reader, .ref x_current, .ref x_images, .ref x_kept, .ref x_slots, .ref x_diary, .ref x_base, .ref x_trial, .ref x_plan, .ref x_orders, .ref x_unanswered, .int 0, .int 0, .int (-1)]))]) hP hD [3] [0, 1, 2] rfl rfl (by decide) (by decide) hk1 hFc hP1 hD1
  clear hPc hDc hKc hFc
  generalize H1 = H at hP hS ⊢
  have hP : va_P (dC, dI) vwCl [(x_slots, .inl (zk, 4, .inr (.inr (.inr (.inr (va_up (va_up (va_up (va_up (fun _ => none) 0 (some s0)) 1 (some s1)) 2 (some s2)) 3 (some s3))))))), (s0, .inr (5, [.ref y0, .int 0, .int 0, .int 0])), (s3, .inr (5, [.ref y3, .int 0, .int 0, .int 0])), (h0, .inr (8, [.ref x_tape, .ref x_reader, .ref x_current, .ref x_images, .ref x_kept, .ref x_slots, .ref x_diary, .ref x_base, .ref x_trial, .ref x_plan, .ref x_orders, .ref x_unanswered, .int 0, .int 0, .int (-1)]))] H := hP
  have hD : va_D A [(x_slots, .inl (zk, 4, .inr (.inr (.inr (.inr (va_up (va_up (va_up (va_up (fun _ => none) 0 (some s0)) 1 (some s1)) 2 (some s2)) 3 (some s3))))))), (s0, .inr (5, [.ref y0, .int 0, .int 0, .int 0])), (s3, .inr (5, [.ref y3, .int 0, .int 0, .int 0])), (h0, .inr (8, [.ref x_tape, .ref x_reader, .ref x_current, .ref x_images, .ref x_kept, .ref x_slots, .ref x_diary, .ref x_base, .ref x_trial, .ref x_plan, .ref x_orders, .ref x_unanswered, .int 0, .int 0, .int (-1)]))] := hD
  have hw : r_3 = 1 := hw
  subst hw
  refine lv_if_ne (tgt := 19) hx hb dX8_paste_13 (by decide) (fun c_4 => ?_) (fun c_4 => absurd c_4 (by decide))
  refine lv_aload_n hx hb dX8_paste_19 rfl (lv_at hl 0 rfl) ?_
  refine va_get (D := (dC, dI)) (ci := 8) (v := .ref x_slots) (C := RX8) (T := TX8) (N := 15) hx hb hts inA8 hown hK hP 3 rfl rfl 5 (by decide) (hts _ w_29) (fun _ h9 => h9) rfl dX8_paste_20 ?_
  refine lv_iload_n hx hb dX8_paste_23 rfl (lv_at hl 1 rfl) ?_
  refine va_aldq hx hb hK hP 0 0 rfl rfl (show vp_in 0 4 from (by unfold vp_in; decide)) dX8_paste_24 ?_
  refine W.eq (g2 := F0 m 25 ls [.ref s0]) rfl ?_
  refine lv_astore (lv' := [(6, .ref s0), (0, .ref h0), (1, .int 0), (2, .int b), (3, .int 3), (4, .int a), (5, .int g_)]) hx hb dX8_paste_25 hl (by decide) rfl (fun ls hl => ?_)
  refine lv_aload_n hx hb dX8_paste_27 rfl (lv_at hl 1 rfl) ?_
  refine va_get (D := (dC, dI)) (ci := 8) (v := .ref x_slots) (C := RX8) (T := TX8) (N := 15) hx hb hts inA8 hown hK hP 3 rfl rfl 5 (by decide) (hts _ w_29) (fun _ h9 => h9) rfl dX8_paste_28 ?_
  refine lv_iload_n hx hb dX8_paste_31 rfl (lv_at hl 4 rfl) ?_
  refine va_aldq hx hb hK hP 0 0 rfl rfl (show vp_in 3 4 from (by unfold vp_in; decide)) dX8_paste_32 ?_
  refine W.eq (g2 := F0 m 33 ls [.ref s3]) rfl ?_
  refine lv_astore (lv' := [(7, .ref s3), (6, .ref s0), (0, .ref h0), (1, .int 0), (2, .int b), (3, .int 3), (4, .int a), (5, .int g_)]) hx hb dX8_paste_33 hl (by decide) rfl (fun ls hl => ?_)
  refine lv_aload hx hb dX8_paste_35 (lv_at hl 1 rfl) ?_
  refine va_get (D := (dC, dI)) (ci := 5) (v := .int 0) (C := RX5) (T := TX5) (N := 4) hx hb hts inA5 hown hK hP 1 rfl rfl 1 (by decide) (hts _ w_1283) (fun _ h9 => h9) rfl dX8_paste_37 ?_
  refine lv_if_eq (tgt := 51) hx hb dX8_paste_40 (by decide) (fun c_5 => ?_) (fun c_5 => absurd (by decide) c_5)
  refine lv_bipush (v := (-6)) hx hb dX8_paste_51 (by decide) ?_
  exact W.iret (v := (-6)) hx hb hr (fun t ht hW => ⟨⟨(-6), (), rfl, rfl, trivial⟩, hS.F ht⟩) hS.2.2 dX8_paste_53
set_option maxHeartbeats 4000000 in
set_option maxRecDepth 100000 in
theorem x_pasteO1 (l : Launch) (dC : Nat → ClassId) (dI : Nat → Nat → Nat) (sz : Nat) (h0 : Nat) (x_tape : Nat) (x_reader : Nat) (x_current : Nat) (x_images : Nat) (x_kept : Nat) (x_slots : Nat) (x_diary : Nat) (x_base : Nat) (x_trial : Nat) (x_plan : Nat) (x_orders : Nat) (x_unanswered : Nat) (b : Int32) (a : Int32) (g_ : Int32) (w_ : Int32) (h1 : a.toInt < 0 ∨ 4 ≤ a.toInt) : Met l yX8_paste (.code yX8_paste cX8_paste 8 (some .int) :: ALLW) ({ frames := 1, cells := 0, slots := 0, locals := 21 }) (va_Pc [.ref h0, .int 1, .int b, .int a, .int g_, .int w_] (fun U => U.heap.size = sz ∧ va_P (dC, dI) vwCl [(h0, .inr (8, [.ref x_tape, .ref x_reader, .ref x_current, .ref x_images, .ref x_kept, .ref x_slots, .ref x_diary, .ref x_base, .ref x_trial, .ref x_plan, .ref x_orders, .ref x_unanswered, .int 0, .int 0, .int (-1)]))] U.heap ∧ va_K (dC, dI) vwCl [] U ∧ va_D (fun _ => True) [(h0, .inr (8, [.ref x_tape, .ref x_reader, .ref x_current, .ref x_images, .ref x_kept, .ref x_slots, .ref x_diary, .ref x_base, .ref x_trial, .ref x_plan, .ref x_orders, .ref x_unanswered, .int 0, .int 0, .int (-1)]))])) (va_Qi (fun (r : Int32) (_ : Unit) => r = (-2)) (fun (_ : Unit) (_ : State) => True) (va_A [(h0, .inr (8, [.ref x_tape, .ref x_reader, .ref x_current, .ref x_images, .ref x_kept, .ref x_slots, .ref x_diary, .ref x_base, .ref x_trial, .ref x_plan, .ref x_orders, .ref x_unanswered, .int 0, .int 0, .int (-1)]))] sz)) 0 0 (va_A [(h0, .inr (8, [.ref x_tape, .ref x_reader, .ref x_current, .ref x_images, .ref x_kept, .ref x_slots, .ref x_diary, .ref x_base, .ref x_trial, .ref x_plan, .ref x_orders, .ref x_unanswered, .int 0, .int 0, .int (-1)]))] sz) := by
  refine Met.ofW (cc := cX8_paste) (maxL := 8) (ret := (some .int)) (by decide) rfl ?_
  intro p e s m args below meth c s₁ B hml hv
  obtain ⟨rfl, hsz, hP, hK, hD0⟩ := hv
  have hx := B.exec
  have hb := B.bytes
  have hr := B.returns
  have hts0 := atoms_spec (ws := (.code yX8_paste cX8_paste 8 (some .int) :: ALLW)) B.pre
  have hts := fun (w : Cond) (h : w ∈ ALLW) => hts0 w (List.mem_cons_of_mem _ h)
  have hown : s.vm.findClass RX8 = some m.cls := findClass_of_methodNamed B.named
  have hlocks := B.notSynchronized
  subst hsz
  have hD := hD0.self (sz := s.heap.size)
  generalize hAe : va_A [(h0, .inr (8, [.ref x_tape, .ref x_reader, .ref x_current, .ref x_images, .ref x_kept, .ref x_slots, .ref x_diary, .ref x_base, .ref x_trial, .ref x_plan, .ref x_orders, .ref x_unanswered, .int 0, .int 0, .int (-1)]))] s.heap.size = A at hD ⊢
  have hA : ∀ q : Nat, s.heap.size ≤ q → A q := fun q h => by rw [← hAe]; exact Or.inr h
  have hS : va_S A s.heap s.heap [] := va_S.rf
  have hP : va_P (dC, dI) vwCl [(h0, .inr (8, [.ref x_tape, .ref x_reader, .ref x_current, .ref x_images, .ref x_kept, .ref x_slots, .ref x_diary, .ref x_base, .ref x_trial, .ref x_plan, .ref x_orders, .ref x_unanswered, .int 0, .int 0, .int (-1)]))] s.heap := hP
  have hl := lv_entry ([.ref h0, .int 1, .int b, .int a, .int g_, .int w_]) (n := 8) (Nat.le_of_ble_eq_true rfl)
  rw [lg_entry_eq]
  generalize (lg_sl ([.ref h0, .int 1, .int b, .int a, .int g_, .int w_]) ++ List.replicate (8 - (lg_sl ([.ref h0, .int 1, .int b, .int a, .int g_, .int w_])).length) Slot.unset).toArray = ls at hl ⊢
  have hl : lv_has ls 8 [(0, .ref h0), (1, .int 1), (2, .int b), (3, .int a), (4, .int g_), (5, .int w_)] := hl
  refine lv_aload_n hx hb dX8_paste_0 rfl (lv_at hl 0 rfl) ?_
  refine lv_iload_n hx hb dX8_paste_1 rfl (lv_at hl 1 rfl) ?_
  have hPc := hP.sub (ws' := [(h0, .inr (8, [.ref x_tape, .ref x_reader, .ref x_current, .ref x_images, .ref x_kept, .ref x_slots, .ref x_diary, .ref x_base, .ref x_trial, .ref x_plan, .ref x_orders, .ref x_unanswered, .int 0, .int 0, .int (-1)]))]) [0] rfl
  have hDc := hD.sub (ws' := [(h0, .inr (8, [.ref x_tape, .ref x_reader, .ref x_current, .ref x_images, .ref x_kept, .ref x_slots, .ref x_diary, .ref x_base, .ref x_trial, .ref x_plan, .ref x_orders, .ref x_unanswered, .int 0, .int 0, .int (-1)]))]) [0] (by decide) rfl
  have hKc := hK.sub (tys' := []) [] rfl
  have hFc := va_free (wc := [(h0, .inr (8, [.ref x_tape, .ref x_reader, .ref x_current, .ref x_images, .ref x_kept, .ref x_slots, .ref x_diary, .ref x_base, .ref x_trial, .ref x_plan, .ref x_orders, .ref x_unanswered, .int 0, .int 0, .int (-1)]))]) hD hS hA [0] rfl
  refine va_calli (va_runV (As := [.int 1]) (rest := []) ⟨hx, hb, hml, hown, hts⟩ (c_isSlot1 l dC dI s.heap.size h0 x_tape x_reader x_current x_images x_kept x_slots x_diary x_base x_trial x_plan x_orders x_unanswered ) (cwV 1 hts (goodV w_1288 w_1289 w_1290 w_2 w_1291) rfl rfl rfl hdV_X8_isSlot ⟨Nat.le_of_ble_eq_true rfl, Nat.le_of_ble_eq_true rfl⟩) ⟨fun a U g mk q => by obtain ⟨q0, q1, qP, qK, qD⟩ := q; exact ⟨q0, q1, qP, va_K.moved (u := U) (U := U.calling g mk a) (Vm.Alike.refl U.vm) qK, qD⟩, va_recv hKc hPc (ci := 8) (q0 := 0) rfl rfl, fun U hU hW => ⟨rfl, by rw [hU], by rw [hU]; exact hPc, va_K.moved hW.alike hKc, hDc.weaken (fun _ _ _ _ => trivial)⟩⟩ rfl rfl hl.1 rfl (lv_room (Nat.le_of_ble_eq_true rfl)) dX8_paste_2 ⟨Nat.le_of_ble_eq_true rfl, Nat.le_of_ble_eq_true rfl⟩) hS (fun q _ h => hFc q h) hFc (fun r_1 u t H1 locs ht hvm hw hB hz1 hk1 hS => ?_)
  obtain ⟨hP1, hK1, hD1⟩ := hB
  rw [ht] at hP1
  have hK1 := va_K.moved hvm.symm hK1
  obtain ⟨hP, hD⟩ := va_join (wr := []) (w1 := [(h0, .inr (8, [.ref x_tape, .ref x_reader, .ref x_current, .ref x_images, .ref x_kept, .ref x_slots, .ref x_diary, .ref x_base, .ref x_trial, .ref x_plan, .ref x_orders, .ref x_unanswered, .int 0, .int 0, .int (-1)]))]) hP hD [0] [] rfl rfl (by decide) (by decide) hk1 hFc hP1 hD1
  clear hPc hDc hKc hFc
  generalize H1 = H at hP hS ⊢
  have hP : va_P (dC, dI) vwCl [(h0, .inr (8, [.ref x_tape, .ref x_reader, .ref x_current, .ref x_images, .ref x_kept, .ref x_slots, .ref x_diary, .ref x_base, .ref x_trial, .ref x_plan, .ref x_orders, .ref x_unanswered, .int 0, .int 0, .int (-1)]))] H := hP
  have hD : va_D A [(h0, .inr (8, [.ref x_tape, .ref x_reader, .ref x_current, .ref x_images, .ref x_kept, .ref x_slots, .ref x_diary, .ref x_base, .ref x_trial, .ref x_plan, .ref x_orders, .ref x_unanswered, .int 0, .int 0, .int (-1)]))] := hD
  have hw : r_1 = 1 := hw
  subst hw
  refine lv_if_eq (tgt := 16) hx hb dX8_paste_5 (by decide) (fun c_2 => absurd c_2 (by decide)) (fun c_2 => ?_)
  refine lv_aload_n hx hb dX8_paste_8 rfl (lv_at hl 0 rfl) ?_
  refine lv_iload_n hx hb dX8_paste_9 rfl (lv_at hl 3 rfl) ?_
  have hPc := hP.sub (ws' := [(h0, .inr (8, [.ref x_tape, .ref x_reader, .ref x_current, .ref x_images, .ref x_kept, .ref x_slots, .ref x_diary, .ref x_base, .ref x_trial, .ref x_plan, .ref x_orders, .ref x_unanswered, .int 0, .int 0, .int (-1)]))]) [0] rfl
  have hDc := hD.sub (ws' := [(h0, .inr (8, [.ref x_tape, .ref x_reader, .ref x_current, .ref x_images, .ref x_kept, .ref x_slots, .ref x_diary, .ref x_base, .ref x_trial, .ref x_plan, .ref x_orders, .ref x_unanswered, .int 0, .int 0, .int (-1)]))]) [0] (by decide) rfl
  have hKc := hK.sub (tys' := []) [] rfl
  have hFc := va_free (wc := [(h0, .inr (8, [.ref x_tape, .ref x_reader, .ref x_current, .ref x_images, .ref x_kept, .ref x_slots, .ref x_diary, .ref x_base, .ref x_trial, .ref x_plan, .ref x_orders, .ref x_unanswered, .int 0, .int 0, .int (-1)]))]) hD hS hA [0] rfl
  refine va_calli (va_runV (As := [.int a]) (rest := []) ⟨hx, hb, hml, hown, hts⟩ (c_isSlotO l dC dI H.size h0 x_tape x_reader x_current x_images x_kept x_slots x_diary x_base x_trial x_plan x_orders x_unanswered a h1) (cwV 1 hts (goodV w_1288 w_1289 w_1290 w_2 w_1291) rfl rfl rfl hdV_X8_isSlot ⟨Nat.le_of_ble_eq_true rfl, Nat.le_of_ble_eq_true rfl⟩) ⟨fun a U g mk q => by obtain ⟨q0, q1, qP, qK, qD⟩ := q; exact ⟨q0, q1, qP, va_K.moved (u := U) (U := U.calling g mk a) (Vm.Alike.refl U.vm) qK, qD⟩, va_recv hKc hPc (ci := 8) (q0 := 0) rfl rfl, fun U hU hW => ⟨rfl, by rw [hU], by rw [hU]; exact hPc, va_K.moved hW.alike hKc, hDc.weaken (fun _ _ _ _ => trivial)⟩⟩ rfl rfl hl.1 rfl (lv_room (Nat.le_of_ble_eq_true rfl)) dX8_paste_10 ⟨Nat.le_of_ble_eq_true rfl, Nat.le_of_ble_eq_true rfl⟩) hS (fun q _ h => hFc q h) hFc (fun r_3 u t H1 locs ht hvm hw hB hz1 hk1 hS => ?_)
  obtain ⟨hP1, hK1, hD1⟩ := hB
  rw [ht] at hP1
  have hK1 := va_K.moved hvm.symm hK1
  obtain ⟨hP, hD⟩ := va_join (wr := []) (w1 := [(h0, .inr (8, [.ref x_tape, .ref x_reader, .ref x_current, .ref x_images, .ref x_kept, .ref x_slots, .ref x_diary, .ref x_base, .ref x_trial, .ref x_plan, .ref x_orders, .ref x_unanswered, .int 0, .int 0, .int (-1)]))]) hP hD [0] [] rfl rfl (by decide) (by decide) hk1 hFc hP1 hD1
  clear hPc hDc hKc hFc
  generalize H1 = H at hP hS ⊢
  have hP : va_P (dC, dI) vwCl [(h0, .inr (8, [.ref x_tape, .ref x_reader, .ref x_current, .ref x_images, .ref x_kept, .ref x_slots, .ref x_diary, .ref x_base, .ref x_trial, .ref x_plan, .ref x_orders, .ref x_unanswered, .int 0, .int 0, .int (-1)]))] H := hP
  have hD : va_D A [(h0, .inr (8, [.ref x_tape, .ref x_reader, .ref x_current, .ref x_images, .ref x_kept, .ref x_slots, .ref x_diary, .ref x_base, .ref x_trial, .ref x_plan, .ref x_orders, .ref x_unanswered, .int 0, .int 0, .int (-1)]))] := hD
  have hw : r_3 = 0 := hw
  subst hw
  refine lv_if_ne (tgt := 19) hx hb dX8_paste_13 (by decide) (fun c_4 => absurd (by decide) c_4) (fun c_4 => ?_)
  refine lv_bipush (v := (-2)) hx hb dX8_paste_16 (by decide) ?_
  exact W.iret (v := (-2)) hx hb hr (fun t ht hW => ⟨⟨(-2), (), rfl, rfl, trivial⟩, hS.F ht⟩) hS.2.2 dX8_paste_18
set_option maxHeartbeats 4000000 in
set_option maxRecDepth 100000 in
theorem x_paste10 (l : Launch) (dC : Nat → ClassId) (dI : Nat → Nat → Nat) (sz : Nat) (h0 : Nat) (x_tape : Nat) (x_reader : Nat) (x_current : Nat) (x_images : Nat) (x_kept : Nat) (x_slots : Nat) (x_diary : Nat) (x_base : Nat) (x_trial : Nat) (x_plan : Nat) (x_orders : Nat) (x_unanswered : Nat) (s0 : Nat) (s1 : Nat) (s2 : Nat) (s3 : Nat) (y0 : Nat) (y1 : Nat) (y2 : Nat) (y3 : Nat) (zk : ClassId) (b : Int32) (a : Int32) (g_ : Int32)  : Met l yX8_paste (.code yX8_paste cX8_paste 8 (some .int) :: ALLW) ({ frames := 1, cells := 0, slots := 0, locals := 21 }) (va_Pc [.ref h0, .int 1, .int b, .int 0, .int a, .int g_] (fun U => U.heap.size = sz ∧ va_P (dC, dI) vwCl [(h0, .inr (8, [.ref x_tape, .ref x_reader, .ref x_current, .ref x_images, .ref x_kept, .ref x_slots, .ref x_diary, .ref x_base, .ref x_trial, .ref x_plan, .ref x_orders, .ref x_unanswered, .int 0, .int 0, .int (-1)])), (x_slots, .inl (zk, 4, .inr (.inr (.inr (.inr (va_up (va_up (va_up (va_up (fun _ => none) 0 (some s0)) 1 (some s1)) 2 (some s2)) 3 (some s3))))))), (s1, .inr (5, [.ref y1, .int 0, .int 0, .int 0])), (s0, .inr (5, [.ref y0, .int 0, .int 0, .int 0]))] U.heap ∧ va_K (dC, dI) vwCl [(zk, .object RX5)] U ∧ va_D (fun _ => True) [(h0, .inr (8, [.ref x_tape, .ref x_reader, .ref x_current, .ref x_images, .ref x_kept, .ref x_slots, .ref x_diary, .ref x_base, .ref x_trial, .ref x_plan, .ref x_orders, .ref x_unanswered, .int 0, .int 0, .int (-1)])), (x_slots, .inl (zk, 4, .inr (.inr (.inr (.inr (va_up (va_up (va_up (va_up (fun _ => none) 0 (some s0)) 1 (some s1)) 2 (some s2)) 3 (some s3))))))), (s1, .inr (5, [.ref y1, .int 0, .int 0, .int 0])), (s0, .inr (5, [.ref y0, .int 0, .int 0, .int 0]))])) (va_Qi (fun (r : Int32) (_ : Unit) => r = (-6)) (fun (_ : Unit) (_ : State) => True) (va_A [(h0, .inr (8, [.ref x_tape, .ref x_reader, .ref x_current, .ref x_images, .ref x_kept, .ref x_slots, .ref x_diary, .ref x_base, .ref x_trial, .ref x_plan, .ref x_orders, .ref x_unanswered, .int 0, .int 0, .int (-1)])), (x_slots, .inl (zk, 4, .inr (.inr (.inr (.inr (va_up (va_up (va_up (va_up (fun _ => none) 0 (some s0)) 1 (some s1)) 2 (some s2)) 3 (some s3))))))), (s1, .inr (5, [.ref y1, .int 0, .int 0, .int 0])), (s0, .inr (5, [.ref y0, .int 0, .int 0, .int 0]))] sz)) 0 0 (va_A [(h0, .inr (8, [.ref x_tape, .ref x_reader, .ref x_current, .ref x_images, .ref x_kept, .ref x_slots, .ref x_diary, .ref x_base, .ref x_trial, .ref x_plan, .ref x_orders, .ref x_unanswered, .int 0, .int 0, .int (-1)])), (x_slots, .inl (zk, 4, .inr (.inr (.inr (.inr (va_up (va_up (va_up (va_up (fun _ => none) 0 (some s0)) 1 (some s1)) 2 (some s2)) 3 (some s3))))))), (s1, .inr (5, [.ref y1, .int 0, .int 0, .int 0])), (s0, .inr (5, [.ref y0, .int 0, .int 0, .int 0]))] sz) := by
  refine Met.ofW (cc := cX8_paste) (maxL := 8) (ret := (some .int)) (by decide) rfl ?_
  intro p e s m args below meth c s₁ B hml hv
  obtain ⟨rfl, hsz, hP, hK, hD0⟩ := hv
  have hx := B.exec
  have hb := B.bytes
  have hr := B.returns
  have hts0 := atoms_spec (ws := (.code yX8_paste cX8_paste 8 (some .int) :: ALLW)) B.pre
  have hts := fun (w : Cond) (h : w ∈ ALLW) => hts0 w (List.mem_cons_of_mem _ h)
  have hown : s.vm.findClass RX8 = some m.cls := findClass_of_methodNamed B.named
  have hlocks := B.notSynchronized
  subst hsz
  have hD := hD0.self (sz := s.heap.size)
  generalize hAe : va_A [(h0, .inr (8, [.ref x_tape, .ref x_reader, .ref x_current, .ref x_images, .ref x_kept, .ref x_slots, .ref x_diary, .ref x_base, .ref x_trial, .ref x_plan, .ref x_orders, .ref x_unanswered, .int 0, .int 0, .int (-1)])), (x_slots, .inl (zk, 4, .inr (.inr (.inr (.inr (va_up (va_up (va_up (va_up (fun _ => none) 0 (some s0)) 1 (some s1)) 2 (some s2)) 3 (some s3))))))), (s1, .inr (5, [.ref y1, .int 0, .int 0, .int 0])), (s0, .inr (5, [.ref y0, .int 0, .int 0, .int 0]))] s.heap.size = A at hD ⊢
  have hA : ∀ q : Nat, s.heap.size ≤ q → A q := fun q h => by rw [← hAe]; exact Or.inr h
  have hS : va_S A s.heap s.heap [] := va_S.rf
  have hP : va_P (dC, dI) vwCl [(h0, .inr (8, [.ref x_tape, .ref x_reader, .ref x_current, .ref x_images, .ref x_kept, .ref x_slots, .ref x_diary, .ref x_base, .ref x_trial, .ref x_plan, .ref x_orders, .ref x_unanswered, .int 0, .int 0, .int (-1)])), (x_slots, .inl (zk, 4, .inr (.inr (.inr (.inr (va_up (va_up (va_up (va_up (fun _ => none) 0 (some s0)) 1 (some s1)) 2 (some s2)) 3 (some s3))))))), (s1, .inr (5, [.ref y1, .int 0, .int 0, .int 0])), (s0, .inr (5, [.ref y0, .int 0, .int 0, .int 0]))] s.heap := hP
  have hl := lv_entry ([.ref h0, .int 1, .int b, .int 0, .int a, .int g_]) (n := 8) (Nat.le_of_ble_eq_true rfl)
  rw [lg_entry_eq]
  generalize (lg_sl ([.ref h0, .int 1, .int b, .int 0, .int a, .int g_]) ++ List.replicate (8 - (lg_sl ([.ref h0, .int 1, .int b, .int 0, .int a, .int g_])).length) Slot.unset).toArray = ls at hl ⊢
  have hl : lv_has ls 8 [(0, .ref h0), (1, .int 1), (2, .int b), (3, .int 0), (4, .int a), (5, .int g_)] := hl
  refine lv_aload_n hx hb dX8_paste_0 rfl (lv_at hl 0 rfl) ?_
  refine lv_iload_n hx hb dX8_paste_1 rfl (lv_at hl 1 rfl) ?_
  have hPc := hP.sub (ws' := [(h0, .inr (8, [.ref x_tape, .ref x_reader, .ref x_current, .ref x_images, .ref x_kept, .ref x_slots, .ref x_diary, .ref x_base, .ref x_trial, .ref x_plan, .ref x_orders, .ref x_unanswered, .int 0, .int 0, .int (-1)]))]) [0] rfl
  have hDc := hD.sub (ws' := [(h0, .inr (8, [.ref x_tape, .ref x_reader, .ref x_current, .ref x_images, .ref x_kept, .ref x_slots, .ref x_diary, .ref x_base, .ref x_trial, .ref x_plan, .ref x_orders, .ref x_unanswered, .int 0, .int 0, .int (-1)]))]) [0] (by decide) rfl
  have hKc := hK.sub (tys' := []) [] rfl
  have hFc := va_free (wc := [(h0, .inr (8, [.ref x_tape, .ref x_reader, .ref x_current, .ref x_images, .ref x_kept, .ref x_slots, .ref x_diary, .ref x_base, .ref x_trial, .ref x_plan, .ref x_orders, .ref x_unanswered, .int 0, .int 0, .int (-1)]))]) hD hS hA [0] rfl
  refine va_calli (va_runV (As := [.int 1]) (rest := []) ⟨hx, hb, hml, hown, hts⟩ (c_isSlot1 l dC dI s.heap.size h0 x_tape x_reader x_current x_images x_kept x_slots x_diary x_base x_trial x_plan x_orders x_unanswered ) (cwV 1 hts (goodV w_1288 w_1289 w_1290 w_2 w_1291) rfl rfl rfl hdV_X8_isSlot ⟨Nat.le_of_ble_eq_true rfl, Nat.le_of_ble_eq_true rfl⟩) ⟨fun a U g mk q => by obtain ⟨q0, q1, qP, qK, qD⟩ := q; exact ⟨q0, q1, qP, va_K.moved (u := U) (U := U.calling g mk a) (Vm.Alike.refl U.vm) qK, qD⟩, va_recv hKc hPc (ci := 8) (q0 := 0) rfl rfl, fun U hU hW => ⟨rfl, by rw [hU], by rw [hU]; exact hPc, va_K.moved hW.alike hKc, hDc.weaken (fun _ _ _ _ => trivial)⟩⟩ rfl rfl hl.1 rfl (lv_room (Nat.le_of_ble_eq_true rfl)) dX8_paste_2 ⟨Nat.le_of_ble_eq_true rfl, Nat.le_of_ble_eq_true rfl⟩) hS (fun q _ h => hFc q h) hFc (fun r_1 u t H1 locs ht hvm hw hB hz1 hk1 hS => ?_)
  obtain ⟨hP1, hK1, hD1⟩ := hB
  rw [ht] at hP1
  have hK1 := va_K.moved hvm.symm hK1
  obtain ⟨hP, hD⟩ := va_join (wr := [(x_slots, .inl (zk, 4, .inr (.inr (.inr (.inr (va_up (va_up (va_up (va_up (fun _ => none) 0 (some s0)) 1 (some s1)) 2 (some s2)) 3 (some s3))))))), (s1, .inr (5, [.ref y1, .int 0, .int 0, .int 0])), (s0, .inr (5, [.ref y0, .int 0, .int 0, .int 0]))]) (w1 := [(h0, .inr (8, [.ref x_tape, .ref x_reader, .ref x_current, .ref x_images, .ref x_kept, .ref x_slots, .ref x_diary, .ref x_base, .ref x_trial, .ref x_plan, .ref x_orders, .ref x_unanswered, .int 0, .int 0, .int (-1)]))]) hP hD [0] [1, 2, 3] rfl rfl (by decide) (by decide) hk1 hFc hP1 hD1
  clear hPc hDc hKc hFc
  generalize H1 = H at hP hS ⊢
  have hP : va_P (dC, dI) vwCl [(x_slots, .inl (zk, 4, .inr (.inr (.inr (.inr (va_up (va_up (va_up (va_up (fun _ => none) 0 (some s0)) 1 (some s1)) 2 (some s2)) 3 (some s3))))))), (s1, .inr (5, [.ref y1, .int 0, .int 0, .int 0])), (s0, .inr (5, [.ref y0, .int 0, .int 0, .int 0])), (h0, .inr (8, [.ref x_tape, .ref x_reader, .ref x_current, .ref x_images, .ref x_kept, .ref x_slots, .ref x_diary, .ref x_base, .ref x_trial, .ref x_plan, .ref x_orders, .ref x_unanswered, .int 0, .int 0, .int (-1)]))] H := hP
  have hD : va_D A [(x_slots, .inl (zk, 4, .inr (.inr (.inr (.inr (va_up (va_up (va_up (va_up (fun _ => none) 0 (some s0)) 1 (some s1)) 2 (some s2)) 3 (some s3))))))), (s1, .inr (5, [.ref y1, .int 0, .int 0, .int 0])), (s0, .inr (5, [.ref y0, .int 0, .int 0, .int 0])), (h0, .inr (8, [.ref x_tape, .ref x_reader, .ref x_current, .ref x_images, .ref x_kept, .ref x_slots, .ref x_diary, .ref x_base, .ref x_trial, .ref x_plan, .ref x_orders, .ref x_unanswered, .int 0, .int 0, .int (-1)]))] := hD
  have hw : r_1 = 1 := hw
  subst hw
  refine lv_if_eq (tgt := 16) hx hb dX8_paste_5 (by decide) (fun c_2 => absurd c_2 (by decide)) (fun c_2 => ?_)
  refine lv_aload_n hx hb dX8_paste_8 rfl (lv_at hl 0 rfl) ?_
  refine lv_iload_n hx hb dX8_paste_9 rfl (lv_at hl 3 rfl) ?_
  have hPc := hP.sub (ws' := [(h0, .inr (8, [.ref x_tape, .ref x_reader, .ref x_current, .ref x_images, .ref x_kept, .ref x_slots, .ref x_diary, .ref x_base, .ref x_trial, .ref x_plan, .ref x_orders, .ref x_unanswered, .int 0, .int 0, .int (-1)]))]) [3] rfl
  have hDc := hD.sub (ws' := [(h0, .inr (8, [.ref x_tape, .ref x_reader, .ref x_current, .ref x_images, .ref x_kept, .ref x_slots, .ref x_diary, .ref x_base, .ref x_trial, .ref x_plan, .ref x_orders, .ref x_unanswered, .int 0, .int 0, .int (-1)]))]) [3] (by decide) rfl
  have hKc := hK.sub (tys' := []) [] rfl
  have hFc := va_free (wc := [(h0, .inr (8, [.ref x_tape, .ref x_reader, .ref x_current, .ref x_images, .ref x_kept, .ref x_slots, .ref x_diary, .ref x_base, .ref x_trial, .ref x_plan, .ref x_orders, .ref x_unanswered, .int 0, .int 0, .int (-1)]))]) hD hS hA [3] rfl
  refine va_calli (va_runV (As := [.int 0]) (rest := []) ⟨hx, hb, hml, hown, hts⟩ (c_isSlot0 l dC dI H.size h0 x_tape x_reader x_current x_images x_kept x_slots x_diary x_base x_trial x_plan x_orders x_unanswered ) (cwV 1 hts (goodV w_1288 w_1289 w_1290 w_2 w_1291) rfl rfl rfl hdV_X8_isSlot ⟨Nat.le_of_ble_eq_true rfl, Nat.le_of_ble_eq_true rfl⟩) ⟨fun a U g mk q => by obtain ⟨q0, q1, qP, qK, qD⟩ := q; exact ⟨q0, q1, qP, va_K.moved (u := U) (U := U.calling g mk a) (Vm.Alike.refl U.vm) qK, qD⟩, va_recv hKc hPc (ci := 8) (q0 := 0) rfl rfl, fun U hU hW => ⟨rfl, by rw [hU], by rw [hU]; exact hPc, va_K.moved hW.alike hKc, hDc.weaken (fun _ _ _ _ => trivial)⟩⟩ rfl rfl hl.1 rfl (lv_room (Nat.le_of_ble_eq_true rfl)) dX8_paste_10 ⟨Nat.le_of_ble_eq_true rfl, Nat.le_of_ble_eq_true rfl⟩) hS (fun q _ h => hFc q h) hFc (fun r_3 u t H1 locs ht hvm hw hB hz1 hk1 hS => ?_)
  obtain ⟨hP1, hK1, hD1⟩ := hB
  rw [ht] at hP1
  have hK1 := va_K.moved hvm.symm hK1
  obtain ⟨hP, hD⟩ := va_join (wr := [(x_slots, .inl (zk, 4, .inr (.inr (.inr (.inr (va_up (va_up (va_up (va_up (fun _ => none) 0 (some s0)) 1 (some s1)) 2 (some s2)) 3 (some s3))))))), (s1, .inr (5, [.ref y1, .int 0, .int 0, .int 0])), (s0, .inr (5, [.ref y0, .int 0, .int 0, .int 0]))]) (w1 := [(h0, .inr (8, [.ref x_tape, .ref x_reader, .ref x_current, .ref x_images, .ref x_kept, .ref x_slots, .ref x_diary, .ref x_base, .ref x_trial, .ref x_plan, .ref x_orders, .ref x_unanswered, .int 0, .int 0, .int (-1)]))]) hP hD [3] [0, 1, 2] rfl rfl (by decide) (by decide) hk1 hFc hP1 hD1
  clear hPc hDc hKc hFc
  generalize H1 = H at hP hS ⊢
  have hP : va_P (dC, dI) vwCl [(x_slots, .inl (zk, 4, .inr (.inr (.inr (.inr (va_up (va_up (va_up (va_up (fun _ => none) 0 (some s0)) 1 (some s1)) 2 (some s2)) 3 (some s3))))))), (s1, .inr (5, [.ref y1, .int 0, .int 0, .int 0])), (s0, .inr (5, [.ref y0, .int 0, .int 0, .int 0])), (h0, .inr (8, [.ref x_tape, .ref x_reader, .ref x_current, .ref x_images, .ref x_kept, .ref x_slots, .ref x_diary, .ref x_base, .ref x_trial, .ref x_plan, .ref x_orders, .ref x_unanswered, .int 0, .int 0, .int (-1)]))] H := hP
  have hD : va_D A [(x_slots, .inl (zk, 4, .inr (.inr (.inr (.inr (va_up (va_up (va_up (va_up (fun _ => none) 0 (some s0)) 1 (some s1)) 2 (some s2)) 3 (some s3))))))), (s1, .inr (5, [.ref y1, .int 0, .int 0, .int 0])), (s0, .inr (5, [.ref y0, .int 0, .int 0, .int 0])), (h0, .inr (8, [.ref x_tape, .ref x_reader, .ref x_current, .ref x_images, .ref x_kept, .ref x_slots, .ref x_diary, .ref x_base, .ref x_trial, .ref x_plan, .ref x_orders, .ref x_unanswered, .int 0, .int 0, .int (-1)]))] := hD
  have hw : r_3 = 1 := hw
  subst hw
  refine lv_if_ne (tgt := 19) hx hb dX8_paste_13 (by decide) (fun c_4 => ?_) (fun c_4 => absurd c_4 (by decide))
  refine lv_aload_n hx hb dX8_paste_19 rfl (lv_at hl 0 rfl) ?_
  refine va_get (D := (dC, dI)) (ci := 8) (v := .ref x_slots) (C := RX8) (T := TX8) (N := 15) hx hb hts inA8 hown hK hP 3 rfl rfl 5 (by decide) (hts _ w_29) (fun _ h9 => h9) rfl dX8_paste_20 ?_
  refine lv_iload_n hx hb dX8_paste_23 rfl (lv_at hl 1 rfl) ?_
  refine va_aldq hx hb hK hP 0 0 rfl rfl (show vp_in 1 4 from (by unfold vp_in; decide)) dX8_paste_24 ?_
  refine W.eq (g2 := F0 m 25 ls [.ref s1]) rfl ?_
  refine lv_astore (lv' := [(6, .ref s1), (0, .ref h0), (1, .int 1), (2, .int b), (3, .int 0), (4, .int a), (5, .int g_)]) hx hb dX8_paste_25 hl (by decide) rfl (fun ls hl => ?_)
  refine lv_aload_n hx hb dX8_paste_27 rfl (lv_at hl 1 rfl) ?_
  refine va_get (D := (dC, dI)) (ci := 8) (v := .ref x_slots) (C := RX8) (T := TX8) (N := 15) hx hb hts inA8 hown hK hP 3 rfl rfl 5 (by decide) (hts _ w_29) (fun _ h9 => h9) rfl dX8_paste_28 ?_
  refine lv_iload_n hx hb dX8_paste_31 rfl (lv_at hl 4 rfl) ?_
  refine va_aldq hx hb hK hP 0 0 rfl rfl (show vp_in 0 4 from (by unfold vp_in; decide)) dX8_paste_32 ?_
  refine W.eq (g2 := F0 m 33 ls [.ref s0]) rfl ?_
  refine lv_astore (lv' := [(7, .ref s0), (6, .ref s1), (0, .ref h0), (1, .int 1), (2, .int b), (3, .int 0), (4, .int a), (5, .int g_)]) hx hb dX8_paste_33 hl (by decide) rfl (fun ls hl => ?_)
  refine lv_aload hx hb dX8_paste_35 (lv_at hl 1 rfl) ?_
  refine va_get (D := (dC, dI)) (ci := 5) (v := .int 0) (C := RX5) (T := TX5) (N := 4) hx hb hts inA5 hown hK hP 1 rfl rfl 1 (by decide) (hts _ w_1283) (fun _ h9 => h9) rfl dX8_paste_37 ?_
  refine lv_if_eq (tgt := 51) hx hb dX8_paste_40 (by decide) (fun c_5 => ?_) (fun c_5 => absurd (by decide) c_5)
  refine lv_bipush (v := (-6)) hx hb dX8_paste_51 (by decide) ?_
  exact W.iret (v := (-6)) hx hb hr (fun t ht hW => ⟨⟨(-6), (), rfl, rfl, trivial⟩, hS.F ht⟩) hS.2.2 dX8_paste_53
set_option maxHeartbeats 4000000 in
set_option maxRecDepth 100000 in
theorem x_paste11 (l : Launch) (dC : Nat → ClassId) (dI : Nat → Nat → Nat) (sz : Nat) (h0 : Nat) (x_tape : Nat) (x_reader : Nat) (x_current : Nat) (x_images : Nat) (x_kept : Nat) (x_slots : Nat) (x_diary : Nat) (x_base : Nat) (x_trial : Nat) (x_plan : Nat) (x_orders : Nat) (x_unanswered : Nat) (s0 : Nat) (s1 : Nat) (s2 : Nat) (s3 : Nat) (y0 : Nat) (y1 : Nat) (y2 : Nat) (y3 : Nat) (zk : ClassId) (b : Int32) (a : Int32) (g_ : Int32)  : Met l yX8_paste (.code yX8_paste cX8_paste 8 (some .int) :: ALLW) ({ frames := 1, cells := 0, slots := 0, locals := 21 }) (va_Pc [.ref h0, .int 1, .int b, .int 1, .int a, .int g_] (fun U => U.heap.size = sz ∧ va_P (dC, dI) vwCl [(h0, .inr (8, [.ref x_tape, .ref x_reader, .ref x_current, .ref x_images, .ref x_kept, .ref x_slots, .ref x_diary, .ref x_base, .ref x_trial, .ref x_plan, .ref x_orders, .ref x_unanswered, .int 0, .int 0, .int (-1)])), (x_slots, .inl (zk, 4, .inr (.inr (.inr (.inr (va_up (va_up (va_up (va_up (fun _ => none) 0 (some s0)) 1 (some s1)) 2 (some s2)) 3 (some s3))))))), (s1, .inr (5, [.ref y1, .int 0, .int 0, .int 0]))] U.heap ∧ va_K (dC, dI) vwCl [(zk, .object RX5)] U ∧ va_D (fun _ => True) [(h0, .inr (8, [.ref x_tape, .ref x_reader, .ref x_current, .ref x_images, .ref x_kept, .ref x_slots, .ref x_diary, .ref x_base, .ref x_trial, .ref x_plan, .ref x_orders, .ref x_unanswered, .int 0, .int 0, .int (-1)])), (x_slots, .inl (zk, 4, .inr (.inr (.inr (.inr (va_up (va_up (va_up (va_up (fun _ => none) 0 (some s0)) 1 (some s1)) 2 (some s2)) 3 (some s3))))))), (s1, .inr (5, [.ref y1, .int 0, .int 0, .int 0]))])) (va_Qi (fun (r : Int32) (_ : Unit) => r = (-6)) (fun (_ : Unit) (_ : State) => True) (va_A [(h0, .inr (8, [.ref x_tape, .ref x_reader, .ref x_current, .ref x_images, .ref x_kept, .ref x_slots, .ref x_diary, .ref x_base, .ref x_trial, .ref x_plan, .ref x_orders, .ref x_unanswered, .int 0, .int 0, .int (-1)])), (x_slots, .inl (zk, 4, .inr (.inr (.inr (.inr (va_up (va_up (va_up (va_up (fun _ => none) 0 (some s0)) 1 (some s1)) 2 (some s2)) 3 (some s3))))))), (s1, .inr (5, [.ref y1, .int 0, .int 0, .int 0]))] sz)) 0 0 (va_A [(h0, .inr (8, [.ref x_tape, .ref x_reader, .ref x_current, .ref x_images, .ref x_kept, .ref x_slots, .ref x_diary, .ref x_base, .ref x_trial, .ref x_plan, .ref x_orders, .ref x_unanswered, .int 0, .int 0, .int (-1)])), (x_slots, .inl (zk, 4, .inr (.inr (.inr (.inr (va_up (va_up (va_up (va_up (fun _ => none) 0 (some s0)) 1 (some s1)) 2 (some s2)) 3 (some s3))))))), (s1, .inr (5, [.ref y1, .int 0, .int 0, .int 0]))] sz) := by
  refine Met.ofW (cc := cX8_paste) (maxL := 8) (ret := (some .int)) (by decide) rfl ?_
  intro p e s m args below meth c s₁ B hml hv
  obtain ⟨rfl, hsz, hP, hK, hD0⟩ := hv
  have hx := B.exec
  have hb := B.bytes
  have hr := B.returns
  have hts0 := atoms_spec (ws := (.code yX8_paste cX8_paste 8 (some .int) :: ALLW)) B.pre
  have hts := fun (w : Cond) (h : w ∈ ALLW) => hts0 w (List.mem_cons_of_mem _ h)
  have hown : s.vm.findClass RX8 = some m.cls := findClass_of_methodNamed B.named
  have hlocks := B.notSynchronized
  subst hsz
  have hD := hD0.self (sz := s.heap.size)
  generalize hAe : va_A [(h0, .inr (8, [.ref x_tape, .ref x_reader, .ref x_current, .ref x_images, .ref x_kept, .ref x_slots, .ref x_diary, .ref x_base, .ref x_trial, .ref x_plan, .ref x_orders, .ref x_unanswered, .int 0, .int 0, .int (-1)])), (x_slots, .inl (zk, 4, .inr (.inr (.inr (.inr (va_up (va_up (va_up (va_up (fun _ => none) 0 (some s0)) 1 (some s1)) 2 (some s2)) 3 (some s3))))))), (s1, .inr (5, [.ref y1, .int 0, .int 0, .int 0]))] s.heap.size = A at hD ⊢
  have hA : ∀ q : Nat, s.heap.size ≤ q → A q := fun q h => by rw [← hAe]; exact Or.inr h
  have hS : va_S A s.heap s.heap [] := va_S.rf
  have hP : va_P (dC, dI) vwCl [(h0, .inr (8, [.ref x_tape, .ref x_reader, .ref x_current, .ref x_images, .ref x_kept, .ref x_slots, .ref x_diary, .ref x_base, .ref x_trial, .ref x_plan, .ref x_orders, .ref x_unanswered, .int 0, .int 0, .int (-1)])), (x_slots, .inl (zk, 4, .inr (.inr (.inr (.inr (va_up (va_up (va_up (va_up (fun _ => none) 0 (some s0)) 1 (some s1)) 2 (some s2)) 3 (some s3))))))), (s1, .inr (5, [.ref y1, .int 0, .int 0, .int 0]))] s.heap := hP
  have hl := lv_entry ([.ref h0, .int 1, .int b, .int 1, .int a, .int g_]) (n := 8) (Nat.le_of_ble_eq_true rfl)
  rw [lg_entry_eq]
  generalize (lg_sl ([.ref h0, .int 1, .int b, .int 1, .int a, .int g_]) ++ List.replicate (8 - (lg_sl ([.ref h0, .int 1, .int b, .int 1, .int a, .int g_])).length) Slot.unset).toArray = ls at hl ⊢
  have hl : lv_has ls 8 [(0, .ref h0), (1, .int 1), (2, .int b), (3, .int 1), (4, .int a), (5, .int g_)] := hl
  refine lv_aload_n hx hb dX8_paste_0 rfl (lv_at hl 0 rfl) ?_
  refine lv_iload_n hx hb dX8_paste_1 rfl (lv_at hl 1 rfl) ?_
  have hPc := hP.sub (ws' := [(h0, .inr (8, [.ref x_tape, .ref x_reader, .ref x_current, .ref x_images, .ref x_kept, .ref x_slots, .ref x_diary, .ref x_base, .ref x_trial, .ref x_plan, .ref x_orders, .ref x_unanswered, .int 0, .int 0, .int (-1)]))]) [0] rfl
  have hDc := hD.sub (ws' := [(h0, .inr (8, [.ref x_tape, .ref x_reader, .ref x_current, .ref x_images, .ref x_kept, .ref x_slots, .ref x_diary, .ref x_base, .ref x_trial, .ref x_plan, .ref x_orders, .ref x_unanswered, .int 0, .int 0, .int (-1)]))]) [0] (by decide) rfl
  have hKc := hK.sub (tys' := []) [] rfl
  have hFc := va_free (wc := [(h0, .inr (8, [.ref x_tape, .ref x_reader, .ref x_current, .ref x_images, .ref x_kept, .ref x_slots, .ref x_diary, .ref x_base, .ref x_trial, .ref x_plan, .ref x_orders, .ref x_unanswered, .int 0, .int 0, .int (-1)]))]) hD hS hA [0] rfl
  refine va_calli (va_runV (As := [.int 1]) (rest := []) ⟨hx, hb, hml, hown, hts⟩ (c_isSlot1 l dC dI s.heap.size h0 x_tape x_reader x_current x_images x_kept x_slots x_diary x_base x_trial x_plan x_orders x_unanswered ) (cwV 1 hts (goodV w_1288 w_1289 w_1290 w_2 w_1291) rfl rfl rfl hdV_X8_isSlot ⟨Nat.le_of_ble_eq_true rfl, Nat.le_of_ble_eq_true rfl⟩) ⟨fun a U g mk q => by obtain ⟨q0, q1, qP, qK, qD⟩ := q; exact ⟨q0, q1, qP, va_K.moved (u := U) (U := U.calling g mk a) (Vm.Alike.refl U.vm) qK, qD⟩, va_recv hKc hPc (ci := 8) (q0 := 0) rfl rfl, fun U hU hW => ⟨rfl, by rw [hU], by rw [hU]; exact hPc, va_K.moved hW.alike hKc, hDc.weaken (fun _ _ _ _ => trivial)⟩⟩ rfl rfl hl.1 rfl (lv_room (Nat.le_of_ble_eq_true rfl)) dX8_paste_2 ⟨Nat.le_of_ble_eq_true rfl, Nat.le_of_ble_eq_true rfl⟩) hS (fun q _ h => hFc q h) hFc (fun r_1 u t H1 locs ht hvm hw hB hz1 hk1 hS => ?_)
  obtain ⟨hP1, hK1, hD1⟩ := hB
  rw [ht] at hP1
  have hK1 := va_K.moved hvm.symm hK1
  obtain ⟨hP, hD⟩ := va_join (wr := [(x_slots, .inl (zk, 4, .inr (.inr (.inr (.inr (va_up (va_up (va_up (va_up (fun _ => none) 0 (some s0)) 1 (some s1)) 2 (some s2)) 3 (some s3))))))), (s1, .inr (5, [.ref y1, .int 0, .int 0, .int 0]))]) (w1 := [(h0, .inr (8, [.ref x_tape, .ref x_reader, .ref x_current, .ref x_images, .ref x_kept, .ref x_slots, .ref x_diary, .ref x_base, .ref x_trial, .ref x_plan, .ref x_orders, .ref x_unanswered, .int 0, .int 0, .int (-1)]))]) hP hD [0] [1, 2] rfl rfl (by decide) (by decide) hk1 hFc hP1 hD1
  clear hPc hDc hKc hFc
  generalize H1 = H at hP hS ⊢
  have hP : va_P (dC, dI) vwCl [(x_slots, .inl (zk, 4, .inr (.inr (.inr (.inr (va_up (va_up (va_up (va_up (fun _ => none) 0 (some s0)) 1 (some s1)) 2 (some s2)) 3 (some s3))))))), (s1, .inr (5, [.ref y1, .int 0, .int 0, .int 0])), (h0, .inr (8, [.ref x_tape, .ref x_reader, .ref x_current, .ref x_images, .ref x_kept, .ref x_slots, .ref x_diary, .ref x_base, .ref x_trial, .ref x_plan, .ref x_orders, .ref x_unanswered, .int 0, .int 0, .int (-1)]))] H := hP
  have hD : va_D A [(x_slots, .inl (zk, 4, .inr (.inr (.inr (.inr (va_up (va_up (va_up (va_up (fun _ => none) 0 (some s0)) 1 (some s1)) 2 (some s2)) 3 (some s3))))))), (s1, .inr (5, [.ref y1, .int 0, .int 0, .int 0])), (h0, .inr (8, [.ref x_tape, .ref x_reader, .ref x_current, .ref x_images, .ref x_kept, .ref x_slots, .ref x_diary, .ref x_base, .ref x_trial, .ref x_plan, .ref x_orders, .ref x_unanswered, .int 0, .int 0, .int (-1)]))] := hD
  have hw : r_1 = 1 := hw
  subst hw
  refine lv_if_eq (tgt := 16) hx hb dX8_paste_5 (by decide) (fun c_2 => absurd c_2 (by decide)) (fun c_2 => ?_)
  refine lv_aload_n hx hb dX8_paste_8 rfl (lv_at hl 0 rfl) ?_
  refine lv_iload_n hx hb dX8_paste_9 rfl (lv_at hl 3 rfl) ?_
  have hPc := hP.sub (ws' := [(h0, .inr (8, [.ref x_tape, .ref x_reader, .ref x_current, .ref x_images, .ref x_kept, .ref x_slots, .ref x_diary, .ref x_base, .ref x_trial, .ref x_plan, .ref x_orders, .ref x_unanswered, .int 0, .int 0, .int (-1)]))]) [2] rfl
  have hDc := hD.sub (ws' := [(h0, .inr (8, [.ref x_tape, .ref x_reader, .ref x_current, .ref x_images, .ref x_kept, .ref x_slots, .ref x_diary, .ref x_base, .ref x_trial, .ref x_plan, .ref x_orders, .ref x_unanswered, .int 0, .int 0, .int (-1)]))]) [2] (by decide) rfl
  have hKc := hK.sub (tys' := []) [] rfl
  have hFc := va_free (wc := [(h0, .inr (8, [.ref x_tape, .ref x_reader, .ref x_current, .ref x_images, .ref x_kept, .ref x_slots, .ref x_diary, .ref x_base, .ref x_trial, .ref x_plan, .ref x_orders, .ref x_unanswered, .int 0, .int 0, .int (-1)]))]) hD hS hA [2] rfl
  refine va_calli (va_runV (As := [.int 1]) (rest := []) ⟨hx, hb, hml, hown, hts⟩ (c_isSlot1 l dC dI H.size h0 x_tape x_reader x_current x_images x_kept x_slots x_diary x_base x_trial x_plan x_orders x_unanswered ) (cwV 1 hts (goodV w_1288 w_1289 w_1290 w_2 w_1291) rfl rfl rfl hdV_X8_isSlot ⟨Nat.le_of_ble_eq_true rfl, Nat.le_of_ble_eq_true rfl⟩) ⟨fun a U g mk q => by obtain ⟨q0, q1, qP, qK, qD⟩ := q; exact ⟨q0, q1, qP, va_K.moved (u := U) (U := U.calling g mk a) (Vm.Alike.refl U.vm) qK, qD⟩, va_recv hKc hPc (ci := 8) (q0 := 0) rfl rfl, fun U hU hW => ⟨rfl, by rw [hU], by rw [hU]; exact hPc, va_K.moved hW.alike hKc, hDc.weaken (fun _ _ _ _ => trivial)⟩⟩ rfl rfl hl.1 rfl (lv_room (Nat.le_of_ble_eq_true rfl)) dX8_paste_10 ⟨Nat.le_of_ble_eq_true rfl, Nat.le_of_ble_eq_true rfl⟩) hS (fun q _ h => hFc q h) hFc (fun r_3 u t H1 locs ht hvm hw hB hz1 hk1 hS => ?_)
  obtain ⟨hP1, hK1, hD1⟩ := hB
  rw [ht] at hP1
  have hK1 := va_K.moved hvm.symm hK1
  obtain ⟨hP, hD⟩ := va_join (wr := [(x_slots, .inl (zk, 4, .inr (.inr (.inr (.inr (va_up (va_up (va_up (va_up (fun _ => none) 0 (some s0)) 1 (some s1)) 2 (some s2)) 3 (some s3))))))), (s1, .inr (5, [.ref y1, .int 0, .int 0, .int 0]))]) (w1 := [(h0, .inr (8, [.ref x_tape, .ref x_reader, .ref x_current, .ref x_images, .ref x_kept, .ref x_slots, .ref x_diary, .ref x_base, .ref x_trial, .ref x_plan, .ref x_orders, .ref x_unanswered, .int 0, .int 0, .int (-1)]))]) hP hD [2] [0, 1] rfl rfl (by decide) (by decide) hk1 hFc hP1 hD1
  clear hPc hDc hKc hFc
  generalize H1 = H at hP hS ⊢
  have hP : va_P (dC, dI) vwCl [(x_slots, .inl (zk, 4, .inr (.inr (.inr (.inr (va_up (va_up (va_up (va_up (fun _ => none) 0 (some s0)) 1 (some s1)) 2 (some s2)) 3 (some s3))))))), (s1, .inr (5, [.ref y1, .int 0, .int 0, .int 0])), (h0, .inr (8, [.ref x_tape, .ref x_reader, .ref x_current, .ref x_images, .ref x_kept, .ref x_slots, .ref x_diary, .ref x_base, .ref x_trial, .ref x_plan, .ref x_orders, .ref x_unanswered, .int 0, .int 0, .int (-1)]))] H := hP
  have hD : va_D A [(x_slots, .inl (zk, 4, .inr (.inr (.inr (.inr (va_up (va_up (va_up (va_up (fun _ => none) 0 (some s0)) 1 (some s1)) 2 (some s2)) 3 (some s3))))))), (s1, .inr (5, [.ref y1, .int 0, .int 0, .int 0])), (h0, .inr (8, [.ref x_tape, .ref x_reader, .ref x_current, .ref x_images, .ref x_kept, .ref x_slots, .ref x_diary, .ref x_base, .ref x_trial, .ref x_plan, .ref x_orders, .ref x_unanswered, .int 0, .int 0, .int (-1)]))] := hD
  have hw : r_3 = 1 := hw
  subst hw
  refine lv_if_ne (tgt := 19) hx hb dX8_paste_13 (by decide) (fun c_4 => ?_) (fun c_4 => absurd c_4 (by decide))
  refine lv_aload_n hx hb dX8_paste_19 rfl (lv_at hl 0 rfl) ?_
  refine va_get (D := (dC, dI)) (ci := 8) (v := .ref x_slots) (C := RX8) (T := TX8) (N := 15) hx hb hts inA8 hown hK hP 2 rfl rfl 5 (by decide) (hts _ w_29) (fun _ h9 => h9) rfl dX8_paste_20 ?_
  refine lv_iload_n hx hb dX8_paste_23 rfl (lv_at hl 1 rfl) ?_
  refine va_aldq hx hb hK hP 0 0 rfl rfl (show vp_in 1 4 from (by unfold vp_in; decide)) dX8_paste_24 ?_
  refine W.eq (g2 := F0 m 25 ls [.ref s1]) rfl ?_
  refine lv_astore (lv' := [(6, .ref s1), (0, .ref h0), (1, .int 1), (2, .int b), (3, .int 1), (4, .int a), (5, .int g_)]) hx hb dX8_paste_25 hl (by decide) rfl (fun ls hl => ?_)
  refine lv_aload_n hx hb dX8_paste_27 rfl (lv_at hl 1 rfl) ?_
  refine va_get (D := (dC, dI)) (ci := 8) (v := .ref x_slots) (C := RX8) (T := TX8) (N := 15) hx hb hts inA8 hown hK hP 2 rfl rfl 5 (by decide) (hts _ w_29) (fun _ h9 => h9) rfl dX8_paste_28 ?_
  refine lv_iload_n hx hb dX8_paste_31 rfl (lv_at hl 4 rfl) ?_
  refine va_aldq hx hb hK hP 0 0 rfl rfl (show vp_in 1 4 from (by unfold vp_in; decide)) dX8_paste_32 ?_
  refine W.eq (g2 := F0 m 33 ls [.ref s1]) rfl ?_
  refine lv_astore (lv' := [(7, .ref s1), (6, .ref s1), (0, .ref h0), (1, .int 1), (2, .int b), (3, .int 1), (4, .int a), (5, .int g_)]) hx hb dX8_paste_33 hl (by decide) rfl (fun ls hl => ?_)
  refine lv_aload hx hb dX8_paste_35 (lv_at hl 1 rfl) ?_
  refine va_get (D := (dC, dI)) (ci := 5) (v := .int 0) (C := RX5) (T := TX5) (N := 4) hx hb hts inA5 hown hK hP 1 rfl rfl 1 (by decide) (hts _ w_1283) (fun _ h9 => h9) rfl dX8_paste_37 ?_
  refine lv_if_eq (tgt := 51) hx hb dX8_paste_40 (by decide) (fun c_5 => ?_) (fun c_5 => absurd (by decide) c_5)
  refine lv_bipush (v := (-6)) hx hb dX8_paste_51 (by decide) ?_
  exact W.iret (v := (-6)) hx hb hr (fun t ht hW => ⟨⟨(-6), (), rfl, rfl, trivial⟩, hS.F ht⟩) hS.2.2 dX8_paste_53
set_option maxHeartbeats 4000000 in
set_option maxRecDepth 100000 in
theorem x_paste12 (l : Launch) (dC : Nat → ClassId) (dI : Nat → Nat → Nat) (sz : Nat) (h0 : Nat) (x_tape : Nat) (x_reader : Nat) (x_current : Nat) (x_images : Nat) (x_kept : Nat) (x_slots : Nat) (x_diary : Nat) (x_base : Nat) (x_trial : Nat) (x_plan : Nat) (x_orders : Nat) (x_unanswered : Nat) (s0 : Nat) (s1 : Nat) (s2 : Nat) (s3 : Nat) (y0 : Nat) (y1 : Nat) (y2 : Nat) (y3 : Nat) (zk : ClassId) (b : Int32) (a : Int32) (g_ : Int32)  : Met l yX8_paste (.code yX8_paste cX8_paste 8 (some .int) :: ALLW) ({ frames := 1, cells := 0, slots := 0, locals := 21 }) (va_Pc [.ref h0, .int 1, .int b, .int 2, .int a, .int g_] (fun U => U.heap.size = sz ∧ va_P (dC, dI) vwCl [(h0, .inr (8, [.ref x_tape, .ref x_reader, .ref x_current, .ref x_images, .ref x_kept, .ref x_slots, .ref x_diary, .ref x_base, .ref x_trial, .ref x_plan, .ref x_orders, .ref x_unanswered, .int 0, .int 0, .int (-1)])), (x_slots, .inl (zk, 4, .inr (.inr (.inr (.inr (va_up (va_up (va_up (va_up (fun _ => none) 0 (some s0)) 1 (some s1)) 2 (some s2)) 3 (some s3))))))), (s1, .inr (5, [.ref y1, .int 0, .int 0, .int 0])), (s2, .inr (5, [.ref y2, .int 0, .int 0, .int 0]))] U.heap ∧ va_K (dC, dI) vwCl [(zk, .object RX5)] U ∧ va_D (fun _ => True) [(h0, .inr (8, [.ref x_tape, .ref x_reader, .ref x_current, .ref x_images, .ref x_kept, .ref x_slots, .ref x_diary, .ref x_base, .ref x_trial, .ref x_plan, .ref x_orders, .ref x_unanswered, .int 0, .int 0, .int (-1)])), (x_slots, .inl (zk, 4, .inr (.inr (.inr (.inr (va_up (va_up (va_up (va_up (fun _ => none) 0 (some s0)) 1 (some s1)) 2 (some s2)) 3 (some s3))))))), (s1, .inr (5, [.ref y1, .int 0, .int 0, .int 0])), (s2, .inr (5, [.ref y2, .int 0, .int 0, .int 0]))])) (va_Qi (fun (r : Int32) (_ : Unit) => r = (-6)) (fun (_ : Unit) (_ : State) => True) (va_A [(h0, .inr (8, [.ref x_tape, .ref x_reader, .ref x_current, .ref x_images, .ref x_kept, .ref x_slots, .ref x_diary, .ref x_base, .ref x_trial, .ref x_plan, .ref x_orders, .ref x_unanswered, .int 0, .int 0, .int (-1)])), (x_slots, .inl (zk, 4, .inr (.inr (.inr (.inr (va_up (va_up (va_up (va_up (fun _ => none) 0 (some s0)) 1 (some s1)) 2 (some s2)) 3 (some s3))))))), (s1, .inr (5, [.ref y1, .int 0, .int 0, .int 0])), (s2, .inr (5, [.ref y2, .int 0, .int 0, .int 0]))] sz)) 0 0 (va_A [(h0, .inr (8, [.ref x_tape, .ref x_reader, .ref x_current, .ref x_images, .ref x_kept, .ref x_slots, .ref x_diary, .ref x_base, .ref x_trial, .ref x_plan, .ref x_orders, .ref x_unanswered, .int 0, .int 0, .int (-1)])), (x_slots, .inl (zk, 4, .inr (.inr (.inr (.inr (va_up (va_up (va_up (va_up (fun _ => none) 0 (some s0)) 1 (some s1)) 2 (some s2)) 3 (some s3))))))), (s1, .inr (5, [.ref y1, .int 0, .int 0, .int 0])), (s2, .inr (5, [.ref y2, .int 0, .int 0, .int 0]))] sz) := by
  refine Met.ofW (cc := cX8_paste) (maxL := 8) (ret := (some .int)) (by decide) rfl ?_
  intro p e s m args below meth c s₁ B hml hv
  obtain ⟨rfl, hsz, hP, hK, hD0⟩ := hv
  have hx := B.exec
  have hb := B.bytes
  have hr := B.returns
  have hts0 := atoms_spec (ws := (.code yX8_paste cX8_paste 8 (some .int) :: ALLW)) B.pre
  have hts := fun (w : Cond) (h : w ∈ ALLW) => hts0 w (List.mem_cons_of_mem _ h)
  have hown : s.vm.findClass RX8 = some m.cls := findClass_of_methodNamed B.named
  have hlocks := B.notSynchronized
  subst hsz
  have hD := hD0.self (sz := s.heap.size)
  generalize hAe : va_A [(h0, .inr (8, [.ref x_tape, .ref x_reader, .ref x_current, .ref x_images, .ref x_kept, .ref x_slots, .ref x_diary, .ref x_base, .ref x_trial, .ref x_plan, .ref x_orders, .ref x_unanswered, .int 0, .int 0, .int (-1)])), (x_slots, .inl (zk, 4, .inr (.inr (.inr (.inr (va_up (va_up (va_up (va_up (fun _ => none) 0 (some s0)) 1 (some s1)) 2 (some s2)) 3 (some s3))))))), (s1, .inr (5, [.ref y1, .int 0, .int 0, .int 0])), (s2, .inr (5, [.ref y2, .int 0, .int 0, .int 0]))] s.heap.size = A at hD ⊢
  have hA : ∀ q : Nat, s.heap.size ≤ q → A q := fun q h => by rw [← hAe]; exact Or.inr h
  have hS : va_S A s.heap s.heap [] := va_S.rf
  have hP : va_P (dC, dI) vwCl [(h0, .inr (8, [.ref x_tape, .ref x_reader, .ref x_current, .ref x_images, .ref x_kept, .ref x_slots, .ref x_diary, .ref x_base, .ref x_trial, .ref x_plan, .ref x_orders, .ref x_unanswered, .int 0, .int 0, .int (-1)])), (x_slots, .inl (zk, 4, .inr (.inr (.inr (.inr (va_up (va_up (va_up (va_up (fun _ => none) 0 (some s0)) 1 (some s1)) 2 (some s2)) 3 (some s3))))))), (s1, .inr (5, [.ref y1, .int 0, .int 0, .int 0])), (s2, .inr (5, [.ref y2, .int 0, .int 0, .int 0]))] s.heap := hP
  have hl := lv_entry ([.ref h0, .int 1, .int b, .int 2, .int a, .int g_]) (n := 8) (Nat.le_of_ble_eq_true rfl)
  rw [lg_entry_eq]
  generalize (lg_sl ([.ref h0, .int 1, .int b, .int 2, .int a, .int g_]) ++ List.replicate (8 - (lg_sl ([.ref h0, .int 1, .int b, .int 2, .int a, .int g_])).length) Slot.unset).toArray = ls at hl ⊢
  have hl : lv_has ls 8 [(0, .ref h0), (1, .int 1), (2, .int b), (3, .int 2), (4, .int a), (5, .int g_)] := hl
  refine lv_aload_n hx hb dX8_paste_0 rfl (lv_at hl 0 rfl) ?_
  refine lv_iload_n hx hb dX8_paste_1 rfl (lv_at hl 1 rfl) ?_
  have hPc := hP.sub (ws' := [(h0, .inr (8, [.ref x_tape, .ref x_reader, .ref x_current, .ref x_images, .ref x_kept, .ref x_slots, .ref x_diary, .ref x_base, .ref x_trial, .ref x_plan, .ref x_orders, .ref x_unanswered, .int 0, .int 0, .int (-1)]))]) [0] rfl
  have hDc := hD.sub (ws' := [(h0, .inr (8, [.ref x_tape, .ref x_reader, .ref x_current, .ref x_images, .ref x_kept, .ref x_slots, .ref x_diary, .ref x_base, .ref x_trial, .ref x_plan, .ref x_orders, .ref x_unanswered, .int 0, .int 0, .int (-1)]))]) [0] (by decide) rfl
  have hKc := hK.sub (tys' := []) [] rfl
  have hFc := va_free (wc := [(h0, .inr (8, [.ref x_tape, .ref x_reader, .ref x_current, .ref x_images, .ref x_kept, .ref x_slots, .ref x_diary, .ref x_base, .ref x_trial, .ref x_plan, .ref x_orders, .ref x_unanswered, .int 0, .int 0, .int (-1)]))]) hD hS hA [0] rfl
  refine va_calli (va_runV (As := [.int 1]) (rest := []) ⟨hx, hb, hml, hown, hts⟩ (c_isSlot1 l dC dI s.heap.size h0 x_tape x_reader x_current x_images x_kept x_slots x_diary x_base x_trial x_plan x_orders x_unanswered ) (cwV 1 hts (goodV w_1288 w_1289 w_1290 w_2 w_1291) rfl rfl rfl hdV_X8_isSlot ⟨Nat.le_of_ble_eq_true rfl, Nat.le_of_ble_eq_true rfl⟩) ⟨fun a U g mk q => by obtain ⟨q0, q1, qP, qK, qD⟩ := q; exact ⟨q0, q1, qP, va_K.moved (u := U) (U := U.calling g mk a) (Vm.Alike.refl U.vm) qK, qD⟩, va_recv hKc hPc (ci := 8) (q0 := 0) rfl rfl, fun U hU hW => ⟨rfl, by rw [hU], by rw [hU]; exact hPc, va_K.moved hW.alike hKc, hDc.weaken (fun _ _ _ _ => trivial)⟩⟩ rfl rfl hl.1 rfl (lv_room (Nat.le_of_ble_eq_true rfl)) dX8_paste_2 ⟨Nat.le_of_ble_eq_true rfl, Nat.le_of_ble_eq_true rfl⟩) hS (fun q _ h => hFc q h) hFc (fun r_1 u t H1 locs ht hvm hw hB hz1 hk1 hS => ?_)
  obtain ⟨hP1, hK1, hD1⟩ := hB
  rw [ht] at hP1
  have hK1 := va_K.moved hvm.symm hK1
  obtain ⟨hP, hD⟩ := va_join (wr := [(x_slots, .inl (zk, 4, .inr (.inr (.inr (.inr (va_up (va_up (va_up (va_up (fun _ => none) 0 (some s0)) 1 (some s1)) 2 (some s2)) 3 (some s3))))))), (s1, .inr (5, [.ref y1, .int 0, .int 0, .int 0])), (s2, .inr (5, [.ref y2, .int 0, .int 0, .int 0]))]) (w1 := [(h0, .inr (8, [.ref x_tape, .ref x_reader, .ref x_current, .ref x_images, .ref x_kept, .ref x_slots, .ref x_diary, .ref x_base, .ref x_trial, .ref x_plan, .ref x_orders, .ref x_unanswered, .int 0, .int 0, .int (-1)]))]) hP hD [0] [1, 2, 3] rfl rfl (by decide) (by decide) hk1 hFc hP1 hD1
  clear hPc hDc hKc hFc
  generalize H1 = H at hP hS ⊢
  have hP : va_P (dC, dI) vwCl [(x_slots, .inl (zk, 4, .inr (.inr (.inr (.inr (va_up (va_up (va_up (va_up (fun _ => none) 0 (some s0)) 1 (some s1)) 2 (some s2)) 3 (some s3))))))), (s1, .inr (5, [.ref y1, .int 0, .int 0, .int 0])), (s2, .inr (5, [.ref y2, .int 0, .int 0, .int 0])), (h0, .inr (8, [.ref x_tape, .ref x_reader, .ref x_current, .ref x_images, .ref x_kept, .ref x_slots, .ref x_diary, .ref x_base, .ref x_trial, .ref x_plan, .ref x_orders, .ref x_unanswered, .int 0, .int 0, .int (-1)]))] H := hP
  have hD : va_D A [(x_slots, .inl (zk, 4, .inr (.inr (.inr (.inr (va_up (va_up (va_up (va_up (fun _ => none) 0 (some s0)) 1 (some s1)) 2 (some s2)) 3 (some s3))))))), (s1, .inr (5, [.ref y1, .int 0, .int 0, .int 0])), (s2, .inr (5, [.ref y2, .int 0, .int 0, .int 0])), (h0, .inr (8, [.ref x_tape, .ref x_reader, .ref x_current, .ref x_images, .ref x_kept, .ref x_slots, .ref x_diary, .ref x_base, .ref x_trial, .ref x_plan, .ref x_orders, .ref x_unanswered, .int 0, .int 0, .int (-1)]))] := hD
  have hw : r_1 = 1 := hw
  subst hw
  refine lv_if_eq (tgt := 16) hx hb dX8_paste_5 (by decide) (fun c_2 => absurd c_2 (by decide)) (fun c_2 => ?_)
  refine lv_aload_n hx hb dX8_paste_8 rfl (lv_at hl 0 rfl) ?_
  refine lv_iload_n hx hb dX8_paste_9 rfl (lv_at hl 3 rfl) ?_
  have hPc := hP.sub (ws' := [(h0, .inr (8, [.ref x_tape, .ref x_reader, .ref x_current, .ref x_images, .ref x_kept, .ref x_slots, .ref x_diary, .ref x_base, .ref x_trial, .ref x_plan, .ref x_orders, .ref x_unanswered, .int 0, .int 0, .int (-1)]))]) [3] rfl
  have hDc := hD.sub (ws' := [(h0, .inr (8, [.ref x_tape, .ref x_reader, .ref x_current, .ref x_images, .ref x_kept, .ref x_slots, .ref x_diary, .ref x_base, .ref x_trial, .ref x_plan, .ref x_orders, .ref x_unanswered, .int 0, .int 0, .int (-1)]))]) [3] (by decide) rfl
  have hKc := hK.sub (tys' := []) [] rfl
  have hFc := va_free (wc := [(h0, .inr (8, [.ref x_tape, .ref x_reader, .ref x_current, .ref x_images, .ref x_kept, .ref x_slots, .ref x_diary, .ref x_base, .ref x_trial, .ref x_plan, .ref x_orders, .ref x_unanswered, .int 0, .int 0, .int (-1)]))]) hD hS hA [3] rfl
  refine va_calli (va_runV (As := [.int 2]) (rest := []) ⟨hx, hb, hml, hown, hts⟩ (c_isSlot2 l dC dI H.size h0 x_tape x_reader x_current x_images x_kept x_slots x_diary x_base x_trial x_plan x_orders x_unanswered ) (cwV 1 hts (goodV w_1288 w_1289 w_1290 w_2 w_1291) rfl rfl rfl hdV_X8_isSlot ⟨Nat.le_of_ble_eq_true rfl, Nat.le_of_ble_eq_true rfl⟩) ⟨fun a U g mk q => by obtain ⟨q0, q1, qP, qK, qD⟩ := q; exact ⟨q0, q1, qP, va_K.moved (u := U) (U := U.calling g mk a) (Vm.Alike.refl U.vm) qK, qD⟩, va_recv hKc hPc (ci := 8) (q0 := 0) rfl rfl, fun U hU hW => ⟨rfl, by rw [hU], by rw [hU]; exact hPc, va_K.moved hW.alike hKc, hDc.weaken (fun _ _ _ _ => trivial)⟩⟩ rfl rfl hl.1 rfl (lv_room (Nat.le_of_ble_eq_true rfl)) dX8_paste_10 ⟨Nat.le_of_ble_eq_true rfl, Nat.le_of_ble_eq_true rfl⟩) hS (fun q _ h => hFc q h) hFc (fun r_3 u t H1 locs ht hvm hw hB hz1 hk1 hS => ?_)
  obtain ⟨hP1, hK1, hD1⟩ := hB
  rw [ht] at hP1
  have hK1 := va_K.moved hvm.symm hK1
  obtain ⟨hP, hD⟩ := va_join (wr := [(x_slots, .inl (zk, 4, .inr (.inr (.inr (.inr (va_up (va_up (va_up (va_up (fun _ => none) 0 (some s0)) 1 (some s1)) 2 (some s2)) 3 (some s3))))))), (s1, .inr (5, [.ref y1, .int 0, .int 0, .int 0])), (s2, .inr (5, [.ref y2, .int 0, .int 0, .int 0]))]) (w1 := [(h0, .inr (8, [.ref x_tape, .ref x_reader, .ref x_current, .ref x_images, .ref x_kept, .ref x_slots, .ref x_diary, .ref x_base, .ref x_trial, .ref x_plan, .ref x_orders, .ref x_unanswered, .int 0, .int 0, .int (-1)]))]) hP hD [3] [0, 1, 2] rfl rfl (by decide) (by decide) hk1 hFc hP1 hD1
  clear hPc hDc hKc hFc
  generalize H1 = H at hP hS ⊢
  have hP : va_P (dC, dI) vwCl [(x_slots, .inl (zk, 4, .inr (.inr (.inr (.inr (va_up (va_up (va_up (va_up (fun _ => none) 0 (some s0)) 1 (some s1)) 2 (some s2)) 3 (some s3))))))), (s1, .inr (5, [.ref y1, .int 0, .int 0, .int 0])), (s2, .inr (5, [.ref y2, .int 0, .int 0, .int 0])), (h0, .inr (8, [.ref x_tape, .ref x_reader, .ref x_current, .ref x_images, .ref x_kept, .ref x_slots, .ref x_diary, .ref x_base, .ref x_trial, .ref x_plan, .ref x_orders, .ref x_unanswered, .int 0, .int 0, .int (-1)]))] H := hP
  have hD : va_D A [(x_slots, .inl (zk, 4, .inr (.inr (.inr (.inr (va_up (va_up (va_up (va_up (fun _ => none) 0 (some s0)) 1 (some s1)) 2 (some s2)) 3 (some s3))))))), (s1, .inr (5, [.ref y1, .int 0, .int 0, .int 0])), (s2, .inr (5, [.ref y2, .int 0, .int 0, .int 0])), (h0, .inr (8, [.ref x_tape, .ref x_reader, .ref x_current, .ref x_images, .ref x_kept, .ref x_slots, .ref x_diary, .ref x_base, .ref x_trial, .ref x_plan, .ref x_orders, .ref x_unanswered, .int 0, .int 0, .int (-1)]))] := hD
  have hw : r_3 = 1 := hw
  subst hw
  refine lv_if_ne (tgt := 19) hx hb dX8_paste_13 (by decide) (fun c_4 => ?_) (fun c_4 => absurd c_4 (by decide))
  refine lv_aload_n hx hb dX8_paste_19 rfl (lv_at hl 0 rfl) ?_
  refine va_get (D := (dC, dI)) (ci := 8) (v := .ref x_slots) (C := RX8) (T := TX8) (N := 15) hx hb hts inA8 hown hK hP 3 rfl rfl 5 (by decide) (hts _ w_29) (fun _ h9 => h9) rfl dX8_paste_20 ?_
  refine lv_iload_n hx hb dX8_paste_23 rfl (lv_at hl 1 rfl) ?_
  refine va_aldq hx hb hK hP 0 0 rfl rfl (show vp_in 1 4 from (by unfold vp_in; decide)) dX8_paste_24 ?_
  refine W.eq (g2 := F0 m 25 ls [.ref s1]) rfl ?_
  refine lv_astore (lv' := [(6, .ref s1), (0, .ref h0), (1, .int 1), (2, .int b), (3, .int 2), (4, .int a), (5, .int g_)]) hx hb dX8_paste_25 hl (by decide) rfl (fun ls hl => ?_)
  refine lv_aload_n hx hb dX8_paste_27 rfl (lv_at hl 1 rfl) ?_
  refine va_get (D := (dC, dI)) (ci := 8) (v := .ref x_slots) (C := RX8) (T := TX8) (N := 15) hx hb hts inA8 hown hK hP 3 rfl rfl 5 (by decide) (hts _ w_29) (fun _ h9 => h9) rfl dX8_paste_28 ?_
  refine lv_iload_n hx hb dX8_paste_31 rfl (lv_at hl 4 rfl) ?_
  refine va_aldq hx hb hK hP 0 0 rfl rfl (show vp_in 2 4 from (by unfold vp_in; decide)) dX8_paste_32 ?_
  refine W.eq (g2 := F0 m 33 ls [.ref s2]) rfl ?_
  refine lv_astore (lv' := [(7, .ref s2), (6, .ref s1), (0, .ref h0), (1, .int 1), (2, .int b), (3, .int 2), (4, .int a), (5, .int g_)]) hx hb dX8_paste_33 hl (by decide) rfl (fun ls hl => ?_)
  refine lv_aload hx hb dX8_paste_35 (lv_at hl 1 rfl) ?_
  refine va_get (D := (dC, dI)) (ci := 5) (v := .int 0) (C := RX5) (T := TX5) (N := 4) hx hb hts inA5 hown hK hP 1 rfl rfl 1 (by decide) (hts _ w_1283) (fun _ h9 => h9) rfl dX8_paste_37 ?_
  refine lv_if_eq (tgt := 51) hx hb dX8_paste_40 (by decide) (fun c_5 => ?_) (fun c_5 => absurd (by decide) c_5)
  refine lv_bipush (v := (-6)) hx hb dX8_paste_51 (by decide) ?_
  exact W.iret (v := (-6)) hx hb hr (fun t ht hW => ⟨⟨(-6), (), rfl, rfl, trivial⟩, hS.F ht⟩) hS.2.2 dX8_paste_53
set_option maxHeartbeats 4000000 in
set_option maxRecDepth 100000 in
theorem x_paste13 (l : Launch) (dC : Nat → ClassId) (dI : Nat → Nat → Nat) (sz : Nat) (h0 : Nat) (x_tape : Nat) (x_reader : Nat) (x_current : Nat) (x_images : Nat) (x_kept : Nat) (x_slots : Nat) (x_diary : Nat) (x_base : Nat) (x_trial : Nat) (x_plan : Nat) (x_orders : Nat) (x_unanswered : Nat) (s0 : Nat) (s1 : Nat) (s2 : Nat) (s3 : Nat) (y0 : Nat) (y1 : Nat) (y2 : Nat) (y3 : Nat) (zk : ClassId) (b : Int32) (a : Int32) (g_ : Int32)  : Met l yX8_paste (.code yX8_paste cX8_paste 8 (some .int) :: ALLW) ({ frames := 1, cells := 0, slots := 0, locals := 21 }) (va_Pc [.ref h0, .int 1, .int b, .int 3, .int a, .int g_] (fun U => U.heap.size = sz ∧ va_P (dC, dI) vwCl [(h0, .inr (8, [.ref x_tape, .ref x_reader, .ref x_current, .ref x_images, .ref x_kept, .ref x_slots, .ref x_diary, .ref x_base, .ref x_trial, .ref x_plan, .ref x_orders, .ref x_unanswered, .int 0, .int 0, .int (-1)])), (x_slots, .inl (zk, 4, .inr (.inr (.inr (.inr (va_up (va_up (va_up (va_up (fun _ => none) 0 (some s0)) 1 (some s1)) 2 (some s2)) 3 (some s3))))))), (s1, .inr (5, [.ref y1, .int 0, .int 0, .int 0])), (s3, .inr (5, [.ref y3, .int 0, .int 0, .int 0]))] U.heap ∧ va_K (dC, dI) vwCl [(zk, .object RX5)] U ∧ va_D (fun _ => True) [(h0, .inr (8, [.ref x_tape, .ref x_reader, .ref x_current, .ref x_images, .ref x_kept, .ref x_slots, .ref x_diary, .ref x_base, .ref x_trial, .ref x_plan, .ref x_orders, .ref x_unanswered, .int 0, .int 0, .int (-1)])), (x_slots, .inl (zk, 4, .inr (.inr (.inr (.inr (va_up (va_up (va_up (va_up (fun _ => none) 0 (some s0)) 1 (some s1)) 2 (some s2)) 3 (some s3))))))), (s1, .inr (5, [.ref y1, .int 0, .int 0, .int 0])), (s3, .inr (5, [.ref y3, .int 0, .int 0, .int 0]))])) (va_Qi (fun (r : Int32) (_ : Unit) => r = (-6)) (fun (_ : Unit) (_ : State) => True) (va_A [(h0, .inr (8, [.ref x_tape, .ref x_reader, .ref x_current, .ref x_images, .ref x_kept, .ref x_slots, .ref x_diary, .ref x_base, .ref x_trial, .ref x_plan, .ref x_orders, .ref x_unanswered, .int 0, .int 0, .int (-1)])), (x_slots, .inl (zk, 4, .inr (.inr (.inr (.inr (va_up (va_up (va_up (va_up (fun _ => none) 0 (some s0)) 1 (some s1)) 2 (some s2)) 3 (some s3))))))), (s1, .inr (5, [.ref y1, .int 0, .int 0, .int 0])), (s3, .inr (5, [.ref y3, .int 0, .int 0, .int 0]))] sz)) 0 0 (va_A [(h0, .inr (8, [.ref x_tape, .ref x_reader, .ref x_current, .ref x_images, .ref x_kept, .ref x_slots, .ref x_diary, .ref x_base, .ref x_trial, .ref x_plan, .ref x_orders, .ref x_unanswered, .int 0, .int 0, .int (-1)])), (x_slots, .inl (zk, 4, .inr (.inr (.inr (.inr (va_up (va_up (va_up (va_up (fun _ => none) 0 (some s0)) 1 (some s1)) 2 (some s2)) 3 (some s3))))))), (s1, .inr (5, [.ref y1, .int 0, .int 0, .int 0])), (s3, .inr (5, [.ref y3, .int 0, .int 0, .int 0]))] sz) := by
  refine Met.ofW (cc := cX8_paste) (maxL := 8) (ret := (some .int)) (by decide) rfl ?_
  intro p e s m args below meth c s₁ B hml hv
  obtain ⟨rfl, hsz, hP, hK, hD0⟩ := hv
  have hx := B.exec
  have hb := B.bytes
  have hr := B.returns
  have hts0 := atoms_spec (ws := (.code yX8_paste cX8_paste 8 (some .int) :: ALLW)) B.pre
  have hts := fun (w : Cond) (h : w ∈ ALLW) => hts0 w (List.mem_cons_of_mem _ h)
  have hown : s.vm.findClass RX8 = some m.cls := findClass_of_methodNamed B.named
  have hlocks := B.notSynchronized
  subst hsz
  have hD := hD0.self (sz := s.heap.size)
  generalize hAe : va_A [(h0, .inr (8, [.ref x_tape, .ref x_reader, .ref x_current, .ref x_images, .ref x_kept, .ref x_slots, .ref x_diary, .ref x_base, .ref x_trial, .ref x_plan, .ref x_orders, .ref x_unanswered, .int 0, .int 0, .int (-1)])), (x_slots, .inl (zk, 4, .inr (.inr (.inr (.inr (va_up (va_up (va_up (va_up (fun _ => none) 0 (some s0)) 1 (some s1)) 2 (some s2)) 3 (some s3))))))), (s1, .inr (5, [.ref y1, .int 0, .int 0, .int 0])), (s3, .inr (5, [.ref y3, .int 0, .int 0, .int 0]))] s.heap.size = A at hD ⊢
  have hA : ∀ q : Nat, s.heap.size ≤ q → A q := fun q h => by rw [← hAe]; exact Or.inr h
  have hS : va_S A s.heap s.heap [] := va_S.rf
  have hP : va_P (dC, dI) vwCl [(h0, .inr (8, [.ref x_tape, .ref x_reader, .ref x_current, .ref x_images, .ref x_kept, .ref x_slots, .ref x_diary, .ref x_base, .ref x_trial, .ref x_plan, .ref x_orders, .ref x_unanswered, .int 0, .int 0, .int (-1)])), (x_slots, .inl (zk, 4, .inr (.inr (.inr (.inr (va_up (va_up (va_up (va_up (fun _ => none) 0 (some s0)) 1 (some s1)) 2 (some s2)) 3 (some s3))))))), (s1, .inr (5, [.ref y1, .int 0, .int 0, .int 0])), (s3, .inr (5, [.ref y3, .int 0, .int 0, .int 0]))] s.heap := hP
  have hl := lv_entry ([.ref h0, .int 1, .int b, .int 3, .int a, .int g_]) (n := 8) (Nat.le_of_ble_eq_true rfl)
  rw [lg_entry_eq]
  generalize (lg_sl ([.ref h0, .int 1, .int b, .int 3, .int a, .int g_]) ++ List.replicate (8 - (lg_sl ([.ref h0, .int 1, .int b, .int 3, .int a, .int g_])).length) Slot.unset).toArray = ls at hl ⊢
  have hl : lv_has ls 8 [(0, .ref h0), (1, .int 1), (2, .int b), (3, .int 3), (4, .int a), (5, .int g_)] := hl
  refine lv_aload_n hx hb dX8_paste_0 rfl (lv_at hl 0 rfl) ?_
  refine lv_iload_n hx hb dX8_paste_1 rfl (lv_at hl 1 rfl) ?_
  have hPc := hP.sub (ws' := [(h0, .inr (8, [.ref x_tape, .ref x_reader, .ref x_current, .ref x_images, .ref x_kept, .ref x_slots, .ref x_diary, .ref x_base, .ref x_trial, .ref x_plan, .ref x_orders, .ref x_unanswered, .int 0, .int 0, .int (-1)]))]) [0] rfl
  have hDc := hD.sub (ws' := [(h0, .inr (8, [.ref x_tape, .ref x_reader, .ref x_current, .ref x_images, .ref x_kept, .ref x_slots, .ref x_diary, .ref x_base, .ref x_trial, .ref x_plan, .ref x_orders, .ref x_unanswered, .int 0, .int 0, .int (-1)]))]) [0] (by decide) rfl
  have hKc := hK.sub (tys' := []) [] rfl
  have hFc := va_free (wc := [(h0, .inr (8, [.ref x_tape, .ref x_reader, .ref x_current, .ref x_images, .ref x_kept, .ref x_slots, .ref x_diary, .ref x_base, .ref x_trial, .ref x_plan, .ref x_orders, .ref x_unanswered, .int 0, .int 0, .int (-1)]))]) hD hS hA [0] rfl
  refine va_calli (va_runV (As := [.int 1]) (rest := []) ⟨hx, hb, hml, hown, hts⟩ (c_isSlot1 l dC dI s.heap.size h0 x_tape x_reader x_current x_images x_kept x_slots x_diary x_base x_trial x_plan x_orders x_unanswered ) (cwV 1 hts (goodV w_1288 w_1289 w_1290 w_2 w_1291) rfl rfl rfl hdV_X8_isSlot ⟨Nat.le_of_ble_eq_true rfl, Nat.le_of_ble_eq_true rfl⟩) ⟨fun a U g mk q => by obtain ⟨q0, q1, qP, qK, qD⟩ := q; exact ⟨q0, q1, qP, va_K.moved (u := U) (U := U.calling g mk a) (Vm.Alike.refl U.vm) qK, qD⟩, va_recv hKc hPc (ci := 8) (q0 := 0) rfl rfl, fun U hU hW => ⟨rfl, by rw [hU], by rw [hU]; exact hPc, va_K.moved hW.alike hKc, hDc.weaken (fun _ _ _ _ => trivial)⟩⟩ rfl rfl hl.1 rfl (lv_room (Nat.le_of_ble_eq_true rfl)) dX8_paste_2 ⟨Nat.le_of_ble_eq_true rfl, Nat.le_of_ble_eq_true rfl⟩) hS (fun q _ h => hFc q h) hFc (fun r_1 u t H1 locs ht hvm hw hB hz1 hk1 hS => ?_)
  obtain ⟨hP1, hK1, hD1⟩ := hB
  rw [ht] at hP1
  have hK1 := va_K.moved hvm.symm hK1
  obtain ⟨hP, hD⟩ := va_join (wr := [(x_slots, .inl (zk, 4, .inr (.inr (.inr (.inr (va_up (va_up (va_up (va_up (fun _ => none) 0 (some s0)) 1 (some s1)) 2 (some s2)) 3 (some s3))))))), (s1, .inr (5, [.ref y1, .int 0, .int 0, .int 0])), (s3, .inr (5, [.ref y3, .int 0, .int 0, .int 0]))]) (w1 := [(h0, .inr (8, [.ref x_tape, .ref x_reader, .ref x_current, .ref x_images, .ref x_kept, .ref x_slots, .ref x_diary, .ref x_base, .ref x_trial, .ref x_plan, .ref x_orders, .ref x_unanswered, .int 0, .int 0, .int (-1)]))]) hP hD [0] [1, 2, 3] rfl rfl (by decide) (by decide) hk1 hFc hP1 hD1
  clear hPc hDc hKc hFc
  generalize H1 = H at hP hS ⊢
  have hP : va_P (dC, dI) vwCl [(x_slots, .inl (zk, 4, .inr (.inr (.inr (.inr (va_up (va_up (va_up (va_up (fun _ => none) 0 (some s0)) 1 (some s1)) 2 (some s2)) 3 (some s3))))))), (s1, .inr (5, [.ref y1, .int 0, .int 0, .int 0])), (s3, .inr (5, [.ref y3, .int 0, .int 0, .int 0])), (h0, .inr (8, [.ref x_tape, .ref x_reader, .ref x_current, .ref x_images, .ref x_kept, .ref x_slots, .ref x_diary, .ref x_base, .ref x_trial, .ref x_plan, .ref x_orders, .ref x_unanswered, .int 0, .int 0, .int (-1)]))] H := hP
  have hD : va_D A [(x_slots, .inl (zk, 4, .inr (.inr (.inr (.inr (va_up (va_up (va_up (va_up (fun _ => none) 0 (some s0)) 1 (some s1)) 2 (some s2)) 3 (some s3))))))), (s1, .inr (5, [.ref y1, .int 0, .int 0, .int 0])), (s3, .inr (5, [.ref y3, .int 0, .int 0, .int 0])), (h0, .inr (8, [.ref x_tape, .ref x_reader, .ref x_current, .ref x_images, .ref x_kept, .ref x_slots, .ref x_diary, .ref x_base, .ref x_trial, .ref x_plan, .ref x_orders, .ref x_unanswered, .int 0, .int 0, .int (-1)]))] := hD
  have hw : r_1 = 1 := hw
  subst hw
  refine lv_if_eq (tgt := 16) hx hb dX8_paste_5 (by decide) (fun c_2 => absurd c_2 (by decide)) (fun c_2 => ?_)
  refine lv_aload_n hx hb dX8_paste_8 rfl (lv_at hl 0 rfl) ?_
  refine lv_iload_n hx hb dX8_paste_9 rfl (lv_at hl 3 rfl) ?_
  have hPc := hP.sub (ws' := [(h0, .inr (8, [.ref x_tape, .ref x_reader, .ref x_current, .ref x_images, .ref x_kept, .ref x_slots, .ref x_diary, .ref x_base, .ref x_trial, .ref x_plan, .ref x_orders, .ref x_unanswered, .int 0, .int 0, .int (-1)]))]) [3] rfl
  have hDc := hD.sub (ws' := [(h0, .inr (8, [.ref x_tape, .ref x_reader, .ref x_current, .ref x_images, .ref x_kept, .ref x_slots, .ref x_diary, .ref x_base, .ref x_trial, .ref x_plan, .ref x_orders, .ref x_unanswered, .int 0, .int 0, .int (-1)]))]) [3] (by decide) rfl
  have hKc := hK.sub (tys' := []) [] rfl
  have hFc := va_free (wc := [(h0, .inr (8, [.ref x_tape, .ref x_reader, .ref x_current, .ref x_images, .ref x_kept, .ref x_slots, .ref x_diary, .ref x_base, .ref x_trial, .ref x_plan, .ref x_orders, .ref x_unanswered, .int 0, .int 0, .int (-1)]))]) hD hS hA [3] rfl
  refine va_calli (va_runV (As := [.int 3]) (rest := []) ⟨hx, hb, hml, hown, hts⟩ (c_isSlot3 l dC dI H.size h0 x_tape x_reader x_current x_images x_kept x_slots x_diary x_base x_trial x_plan x_orders x_unanswered ) (cwV 1 hts (goodV w_1288 w_1289 w_1290 w_2 w_1291) rfl rfl rfl hdV_X8_isSlot ⟨Nat.le_of_ble_eq_true rfl, Nat.le_of_ble_eq_true rfl⟩) ⟨fun a U g mk q => by obtain ⟨q0, q1, qP, qK, qD⟩ := q; exact ⟨q0, q1, qP, va_K.moved (u := U) (U := U.calling g mk a) (Vm.Alike.refl U.vm) qK, qD⟩, va_recv hKc hPc (ci := 8) (q0 := 0) rfl rfl, fun U hU hW => ⟨rfl, by rw [hU], by rw [hU]; exact hPc, va_K.moved hW.alike hKc, hDc.weaken (fun _ _ _ _ => trivial)⟩⟩ rfl rfl hl.1 rfl (lv_room (Nat.le_of_ble_eq_true rfl)) dX8_paste_10 ⟨Nat.le_of_ble_eq_true rfl, Nat.le_of_ble_eq_true rfl⟩) hS (fun q _ h => hFc q h) hFc (fun r_3 u t H1 locs ht hvm hw hB hz1 hk1 hS => ?_)
  obtain ⟨hP1, hK1, hD1⟩ := hB
  rw [ht] at hP1
  have hK1 := va_K.moved hvm.symm hK1
  obtain ⟨hP, hD⟩ := va_join (wr := [(x_slots, .inl (zk, 4, .inr (.inr (.inr (.inr (va_up (va_up (va_up (va_up (fun _ => none) 0 (some s0)) 1 (some s1)) 2 (some s2)) 3 (some s3))))))), (s1, .inr (5, [.ref y1, .int 0, .int 0, .int 0])), (s3, .inr (5, [.ref y3, .int 0, .int 0, .int 0]))]) (w1 := [(h0, .inr (8, [.ref x_tape, .ref x_reader, .ref x_current, .ref x_images, .ref x_kept, .ref x_slots, .ref x_diary, .ref x_base, .ref x_trial, .ref x_plan, .ref x_orders, .ref x_unanswered, .int 0, .int 0, .int (-1)]))]) hP hD [3] [0, 1, 2] rfl rfl (by decide) (by decide) hk1 hFc hP1 hD1
  clear hPc hDc hKc hFc
  generalize H1 = H at hP hS ⊢
  have hP : va_P (dC, dI) vwCl [(x_slots, .inl (zk, 4, .inr (.inr (.inr (.inr (va_up (va_up (va_up (va_up (fun _ => none) 0 (some s0)) 1 (some s1)) 2 (some s2)) 3 (some s3))))))), (s1, .inr (5, [.ref y1, .int 0, .int 0, .int 0])), (s3, .inr (5, [.ref y3, .int 0, .int 0, .int 0])), (h0, .inr (8, [.ref x_tape, .ref x_reader, .ref x_current, .ref x_images, .ref x_kept, .ref x_slots, .ref x_diary, .ref x_base, .ref x_trial, .ref x_plan, .ref x_orders, .ref x_unanswered, .int 0, .int 0, .int (-1)]))] H := hP
  have hD : va_D A [(x_slots, .inl (zk, 4, .inr (.inr (.inr (.inr (va_up (va_up (va_up (va_up (fun _ => none) 0 (some s0)) 1 (some s1)) 2 (some s2)) 3 (some s3))))))), (s1, .inr (5, [.ref y1, .int 0, .int 0, .int 0])), (s3, .inr (5, [.ref y3, .int 0, .int 0, .int 0])), (h0, .inr (8, [.ref x_tape, .ref x_reader, .ref x_current, .ref x_images, .ref x_kept, .ref x_slots, .ref x_diary, .ref x_base, .ref x_trial, .ref x_plan, .ref x_orders, .ref x_unanswered, .int 0, .int 0, .int (-1)]))] := hD
  have hw : r_3 = 1 := hw
  subst hw
  refine lv_if_ne (tgt := 19) hx hb dX8_paste_13 (by decide) (fun c_4 => ?_) (fun c_4 => absurd c_4 (by decide))
  refine lv_aload_n hx hb dX8_paste_19 rfl (lv_at hl 0 rfl) ?_
  refine va_get (D := (dC, dI)) (ci := 8) (v := .ref x_slots) (C := RX8) (T := TX8) (N := 15) hx hb hts inA8 hown hK hP 3 rfl rfl 5 (by decide) (hts _ w_29) (fun _ h9 => h9) rfl dX8_paste_20 ?_
  refine lv_iload_n hx hb dX8_paste_23 rfl (lv_at hl 1 rfl) ?_
  refine va_aldq hx hb hK hP 0 0 rfl rfl (show vp_in 1 4 from (by unfold vp_in; decide)) dX8_paste_24 ?_
  refine W.eq (g2 := F0 m 25 ls [.ref s1]) rfl ?_
  refine lv_astore (lv' := [(6, .ref s1), (0, .ref h0), (1, .int 1), (2, .int b), (3, .int 3), (4, .int a), (5, .int g_)]) hx hb dX8_paste_25 hl (by decide) rfl (fun ls hl => ?_)
  refine lv_aload_n hx hb dX8_paste_27 rfl (lv_at hl 1 rfl) ?_
  refine va_get (D := (dC, dI)) (ci := 8) (v := .ref x_slots) (C := RX8) (T := TX8) (N := 15) hx hb hts inA8 hown hK hP 3 rfl rfl 5 (by decide) (hts _ w_29) (fun _ h9 => h9) rfl dX8_paste_28 ?_
  refine lv_iload_n hx hb dX8_paste_31 rfl (lv_at hl 4 rfl) ?_
  refine va_aldq hx hb hK hP 0 0 rfl rfl (show vp_in 3 4 from (by unfold vp_in; decide)) dX8_paste_32 ?_
  refine W.eq (g2 := F0 m 33 ls [.ref s3]) rfl ?_
  refine lv_astore (lv' := [(7, .ref s3), (6, .ref s1), (0, .ref h0), (1, .int 1), (2, .int b), (3, .int 3), (4, .int a), (5, .int g_)]) hx hb dX8_paste_33 hl (by decide) rfl (fun ls hl => ?_)
  refine lv_aload hx hb dX8_paste_35 (lv_at hl 1 rfl) ?_
  refine va_get (D := (dC, dI)) (ci := 5) (v := .int 0) (C := RX5) (T := TX5) (N := 4) hx hb hts inA5 hown hK hP 1 rfl rfl 1 (by decide) (hts _ w_1283) (fun _ h9 => h9) rfl dX8_paste_37 ?_
  refine lv_if_eq (tgt := 51) hx hb dX8_paste_40 (by decide) (fun c_5 => ?_) (fun c_5 => absurd (by decide) c_5)
  refine lv_bipush (v := (-6)) hx hb dX8_paste_51 (by decide) ?_
  exact W.iret (v := (-6)) hx hb hr (fun t ht hW => ⟨⟨(-6), (), rfl, rfl, trivial⟩, hS.F ht⟩) hS.2.2 dX8_paste_53
set_option maxHeartbeats 4000000 in
set_option maxRecDepth 100000 in
theorem x_pasteO2 (l : Launch) (dC : Nat → ClassId) (dI : Nat → Nat → Nat) (sz : Nat) (h0 : Nat) (x_tape : Nat) (x_reader : Nat) (x_current : Nat) (x_images : Nat) (x_kept : Nat) (x_slots : Nat) (x_diary : Nat) (x_base : Nat) (x_trial : Nat) (x_plan : Nat) (x_orders : Nat) (x_unanswered : Nat) (b : Int32) (a : Int32) (g_ : Int32) (w_ : Int32) (h1 : a.toInt < 0 ∨ 4 ≤ a.toInt) : Met l yX8_paste (.code yX8_paste cX8_paste 8 (some .int) :: ALLW) ({ frames := 1, cells := 0, slots := 0, locals := 21 }) (va_Pc [.ref h0, .int 2, .int b, .int a, .int g_, .int w_] (fun U => U.heap.size = sz ∧ va_P (dC, dI) vwCl [(h0, .inr (8, [.ref x_tape, .ref x_reader, .ref x_current, .ref x_images, .ref x_kept, .ref x_slots, .ref x_diary, .ref x_base, .ref x_trial, .ref x_plan, .ref x_orders, .ref x_unanswered, .int 0, .int 0, .int (-1)]))] U.heap ∧ va_K (dC, dI) vwCl [] U ∧ va_D (fun _ => True) [(h0, .inr (8, [.ref x_tape, .ref x_reader, .ref x_current, .ref x_images, .ref x_kept, .ref x_slots, .ref x_diary, .ref x_base, .ref x_trial, .ref x_plan, .ref x_orders, .ref x_unanswered, .int 0, .int 0, .int (-1)]))])) (va_Qi (fun (r : Int32) (_ : Unit) => r = (-2)) (fun (_ : Unit) (_ : State) => True) (va_A [(h0, .inr (8, [.ref x_tape, .ref x_reader, .ref x_current, .ref x_images, .ref x_kept, .ref x_slots, .ref x_diary, .ref x_base, .ref x_trial, .ref x_plan, .ref x_orders, .ref x_unanswered, .int 0, .int 0, .int (-1)]))] sz)) 0 0 (va_A [(h0, .inr (8, [.ref x_tape, .ref x_reader, .ref x_current, .ref x_images, .ref x_kept, .ref x_slots, .ref x_diary, .ref x_base, .ref x_trial, .ref x_plan, .ref x_orders, .ref x_unanswered, .int 0, .int 0, .int (-1)]))] sz) := by
  refine Met.ofW (cc := cX8_paste) (maxL := 8) (ret := (some .int)) (by decide) rfl ?_
  intro p e s m args below meth c s₁ B hml hv
  obtain ⟨rfl, hsz, hP, hK, hD0⟩ := hv
  have hx := B.exec
  have hb := B.bytes
  have hr := B.returns
  have hts0 := atoms_spec (ws := (.code yX8_paste cX8_paste 8 (some .int) :: ALLW)) B.pre
  have hts := fun (w : Cond) (h : w ∈ ALLW) => hts0 w (List.mem_cons_of_mem _ h)
  have hown : s.vm.findClass RX8 = some m.cls := findClass_of_methodNamed B.named
  have hlocks := B.notSynchronized
  subst hsz
  have hD := hD0.self (sz := s.heap.size)
  generalize hAe : va_A [(h0, .inr (8, [.ref x_tape, .ref x_reader, .ref x_current, .ref x_images, .ref x_kept, .ref x_slots, .ref x_diary, .ref x_base, .ref x_trial, .ref x_plan, .ref x_orders, .ref x_unanswered, .int 0, .int 0, .int (-1)]))] s.heap.size = A at hD ⊢
  have hA : ∀ q : Nat, s.heap.size ≤ q → A q := fun q h => by rw [← hAe]; exact Or.inr h
  have hS : va_S A s.heap s.heap [] := va_S.rf
  have hP : va_P (dC, dI) vwCl [(h0, .inr (8, [.ref x_tape, .ref x_reader, .ref x_current, .ref x_images, .ref x_kept, .ref x_slots, .ref x_diary, .ref x_base, .ref x_trial, .ref x_plan, .ref x_orders, .ref x_unanswered, .int 0, .int 0, .int (-1)]))] s.heap := hP
  have hl := lv_entry ([.ref h0, .int 2, .int b, .int a, .int g_, .int w_]) (n := 8) (Nat.le_of_ble_eq_true rfl)
  rw [lg_entry_eq]
  generalize (lg_sl ([.ref h0, .int 2, .int b, .int a, .int g_, .int w_]) ++ List.replicate (8 - (lg_sl ([.ref h0, .int 2, .int b, .int a, .int g_, .int w_])).length) Slot.unset).toArray = ls at hl ⊢
  have hl : lv_has ls 8 [(0, .ref h0), (1, .int 2), (2, .int b), (3, .int a), (4, .int g_), (5, .int w_)] := hl
  refine lv_aload_n hx hb dX8_paste_0 rfl (lv_at hl 0 rfl) ?_
  refine lv_iload_n hx hb dX8_paste_1 rfl (lv_at hl 1 rfl) ?_
  have hPc := hP.sub (ws' := [(h0, .inr (8, [.ref x_tape, .ref x_reader, .ref x_current, .ref x_images, .ref x_kept, .ref x_slots, .ref x_diary, .ref x_base, .ref x_trial, .ref x_plan, .ref x_orders, .ref x_unanswered, .int 0, .int 0, .int (-1)]))]) [0] rfl
  have hDc := hD.sub (ws' := [(h0, .inr (8, [.ref x_tape, .ref x_reader, .ref x_current, .ref x_images, .ref x_kept, .ref x_slots, .ref x_diary, .ref x_base, .ref x_trial, .ref x_plan, .ref x_orders, .ref x_unanswered, .int 0, .int 0, .int (-1)]))]) [0] (by decide) rfl
  have hKc := hK.sub (tys' := []) [] rfl
  have hFc := va_free (wc := [(h0, .inr (8, [.ref x_tape, .ref x_reader, .ref x_current, .ref x_images, .ref x_kept, .ref x_slots, .ref x_diary, .ref x_base, .ref x_trial, .ref x_plan, .ref x_orders, .ref x_unanswered, .int 0, .int 0, .int (-1)]))]) hD hS hA [0] rfl
  refine va_calli (va_runV (As := [.int 2]) (rest := []) ⟨hx, hb, hml, hown, hts⟩ (c_isSlot2 l dC dI s.heap.size h0 x_tape x_reader x_current x_images x_kept x_slots x_diary x_base x_trial x_plan x_orders x_unanswered ) (cwV 1 hts (goodV w_1288 w_1289 w_1290 w_2 w_1291) rfl rfl rfl hdV_X8_isSlot ⟨Nat.le_of_ble_eq_true rfl, Nat.le_of_ble_eq_true rfl⟩) ⟨fun a U g mk q => by obtain ⟨q0, q1, qP, qK, qD⟩ := q; exact ⟨q0, q1, qP, va_K.moved (u := U) (U := U.calling g mk a) (Vm.Alike.refl U.vm) qK, qD⟩, va_recv hKc hPc (ci := 8) (q0 := 0) rfl rfl, fun U hU hW => ⟨rfl, by rw [hU], by rw [hU]; exact hPc, va_K.moved hW.alike hKc, hDc.weaken (fun _ _ _ _ => trivial)⟩⟩ rfl rfl hl.1 rfl (lv_room (Nat.le_of_ble_eq_true rfl)) dX8_paste_2 ⟨Nat.le_of_ble_eq_true rfl, Nat.le_of_ble_eq_true rfl⟩) hS (fun q _ h => hFc q h) hFc (fun r_1 u t H1 locs ht hvm hw hB hz1 hk1 hS => ?_)
  obtain ⟨hP1, hK1, hD1⟩ := hB
  rw [ht] at hP1
  have hK1 := va_K.moved hvm.symm hK1
  obtain ⟨hP, hD⟩ := va_join (wr := []) (w1 := [(h0, .inr (8, [.ref x_tape, .ref x_reader, .ref x_current, .ref x_images, .ref x_kept, .ref x_slots, .ref x_diary, .ref x_base, .ref x_trial, .ref x_plan, .ref x_orders, .ref x_unanswered, .int 0, .int 0, .int (-1)]))]) hP hD [0] [] rfl rfl (by decide) (by decide) hk1 hFc hP1 hD1
  clear hPc hDc hKc hFc
  generalize H1 = H at hP hS ⊢
  have hP : va_P (dC, dI) vwCl [(h0, .inr (8, [.ref x_tape, .ref x_reader, .ref x_current, .ref x_images, .ref x_kept, .ref x_slots, .ref x_diary, .ref x_base, .ref x_trial, .ref x_plan, .ref x_orders, .ref x_unanswered, .int 0, .int 0, .int (-1)]))] H := hP
  have hD : va_D A [(h0, .inr (8, [.ref x_tape, .ref x_reader, .ref x_current, .ref x_images, .ref x_kept, .ref x_slots, .ref x_diary, .ref x_base, .ref x_trial, .ref x_plan, .ref x_orders, .ref x_unanswered, .int 0, .int 0, .int (-1)]))] := hD
  have hw : r_1 = 1 := hw
  subst hw
  refine lv_if_eq (tgt := 16) hx hb dX8_paste_5 (by decide) (fun c_2 => absurd c_2 (by decide)) (fun c_2 => ?_)
  refine lv_aload_n hx hb dX8_paste_8 rfl (lv_at hl 0 rfl) ?_
  refine lv_iload_n hx hb dX8_paste_9 rfl (lv_at hl 3 rfl) ?_
  have hPc := hP.sub (ws' := [(h0, .inr (8, [.ref x_tape, .ref x_reader, .ref x_current, .ref x_images, .ref x_kept, .ref x_slots, .ref x_diary, .ref x_base, .ref x_trial, .ref x_plan, .ref x_orders, .ref x_unanswered, .int 0, .int 0, .int (-1)]))]) [0] rfl
  have hDc := hD.sub (ws' := [(h0, .inr (8, [.ref x_tape, .ref x_reader, .ref x_current, .ref x_images, .ref x_kept, .ref x_slots, .ref x_diary, .ref x_base, .ref x_trial, .ref x_plan, .ref x_orders, .ref x_unanswered, .int 0, .int 0, .int (-1)]))]) [0] (by decide) rfl
  have hKc := hK.sub (tys' := []) [] rfl
  have hFc := va_free (wc := [(h0, .inr (8, [.ref x_tape, .ref x_reader, .ref x_current, .ref x_images, .ref x_kept, .ref x_slots, .ref x_diary, .ref x_base, .ref x_trial, .ref x_plan, .ref x_orders, .ref x_unanswered, .int 0, .int 0, .int (-1)]))]) hD hS hA [0] rfl
  refine va_calli (va_runV (As := [.int a]) (rest := []) ⟨hx, hb, hml, hown, hts⟩ (c_isSlotO l dC dI H.size h0 x_tape x_reader x_current x_images x_kept x_slots x_diary x_base x_trial x_plan x_orders x_unanswered a h1) (cwV 1 hts (goodV w_1288 w_1289 w_1290 w_2 w_1291) rfl rfl rfl hdV_X8_isSlot ⟨Nat.le_of_ble_eq_true rfl, Nat.le_of_ble_eq_true rfl⟩) ⟨fun a U g mk q => by obtain ⟨q0, q1, qP, qK, qD⟩ := q; exact ⟨q0, q1, qP, va_K.moved (u := U) (U := U.calling g mk a) (Vm.Alike.refl U.vm) qK, qD⟩, va_recv hKc hPc (ci := 8) (q0 := 0) rfl rfl, fun U hU hW => ⟨rfl, by rw [hU], by rw [hU]; exact hPc, va_K.moved hW.alike hKc, hDc.weaken (fun _ _ _ _ => trivial)⟩⟩ rfl rfl hl.1 rfl (lv_room (Nat.le_of_ble_eq_true rfl)) dX8_paste_10 ⟨Nat.le_of_ble_eq_true rfl, Nat.le_of_ble_eq_true rfl⟩) hS (fun q _ h => hFc q h) hFc (fun r_3 u t H1 locs ht hvm hw hB hz1 hk1 hS => ?_)
  obtain ⟨hP1, hK1, hD1⟩ := hB
  rw [ht] at hP1
  have hK1 := va_K.moved hvm.symm hK1
  obtain ⟨hP, hD⟩ := va_join (wr := []) (w1 := [(h0, .inr (8, [.ref x_tape, .ref x_reader, .ref x_current, .ref x_images, .ref x_kept, .ref x_slots, .ref x_diary, .ref x_base, .ref x_trial, .ref x_plan, .ref x_orders, .ref x_unanswered, .int 0, .int 0, .int (-1)]))]) hP hD [0] [] rfl rfl (by decide) (by decide) hk1 hFc hP1 hD1
  clear hPc hDc hKc hFc
  generalize H1 = H at hP hS ⊢
  have hP : va_P (dC, dI) vwCl [(h0, .inr (8, [.ref x_tape, .ref x_reader, .ref x_current, .ref x_images, .ref x_kept, .ref x_slots, .ref x_diary, .ref x_base, .ref x_trial, .ref x_plan, .ref x_orders, .ref x_unanswered, .int 0, .int 0, .int (-1)]))] H := hP
  have hD : va_D A [(h0, .inr (8, [.ref x_tape, .ref x_reader, .ref x_current, .ref x_images, .ref x_kept, .ref x_slots, .ref x_diary, .ref x_base, .ref x_trial, .ref x_plan, .ref x_orders, .ref x_unanswered, .int 0, .int 0, .int (-1)]))] := hD
  have hw : r_3 = 0 := hw
  subst hw
  refine lv_if_ne (tgt := 19) hx hb dX8_paste_13 (by decide) (fun c_4 => absurd (by decide) c_4) (fun c_4 => ?_)
  refine lv_bipush (v := (-2)) hx hb dX8_paste_16 (by decide) ?_
  exact W.iret (v := (-2)) hx hb hr (fun t ht hW => ⟨⟨(-2), (), rfl, rfl, trivial⟩, hS.F ht⟩) hS.2.2 dX8_paste_18
set_option maxHeartbeats 4000000 in
set_option maxRecDepth 100000 in
theorem x_paste20 (l : Launch) (dC : Nat → ClassId) (dI : Nat → Nat → Nat) (sz : Nat) (h0 : Nat) (x_tape : Nat) (x_reader : Nat) (x_current : Nat) (x_images : Nat) (x_kept : Nat) (x_slots : Nat) (x_diary : Nat) (x_base : Nat) (x_trial : Nat) (x_plan : Nat) (x_orders : Nat) (x_unanswered : Nat) (s0 : Nat) (s1 : Nat) (s2 : Nat) (s3 : Nat) (y0 : Nat) (y1 : Nat) (y2 : Nat) (y3 : Nat) (zk : ClassId) (b : Int32) (a : Int32) (g_ : Int32)  : Met l yX8_paste (.code yX8_paste cX8_paste 8 (some .int) :: ALLW) ({ frames := 1, cells := 0, slots := 0, locals := 21 }) (va_Pc [.ref h0, .int 2, .int b, .int 0, .int a, .int g_] (fun U => U.heap.size = sz ∧ va_P (dC, dI) vwCl [(h0, .inr (8, [.ref x_tape, .ref x_reader, .ref x_current, .ref x_images, .ref x_kept, .ref x_slots, .ref x_diary, .ref x_base, .ref x_trial, .ref x_plan, .ref x_orders, .ref x_unanswered, .int 0, .int 0, .int (-1)])), (x_slots, .inl (zk, 4, .inr (.inr (.inr (.inr (va_up (va_up (va_up (va_up (fun _ => none) 0 (some s0)) 1 (some s1)) 2 (some s2)) 3 (some s3))))))), (s2, .inr (5, [.ref y2, .int 0, .int 0, .int 0])), (s0, .inr (5, [.ref y0, .int 0, .int 0, .int 0]))] U.heap ∧ va_K (dC, dI) vwCl [(zk, .object RX5)] U ∧ va_D (fun _ => True) [(h0, .inr (8, [.ref x_tape, .ref x_reader, .ref x_current, .ref x_images, .ref x_kept, .ref x_slots, .ref x_diary, .ref x_base, .ref x_trial, .ref x_plan, .ref x_orders, .ref x_unanswered, .int 0, .int 0, .int (-1)])), (x_slots, .inl (zk, 4, .inr (.inr (.inr (.inr (va_up (va_up (va_up (va_up (fun _ => none) 0 (some s0)) 1 (some s1)) 2 (some s2)) 3 (some s3))))))), (s2, .inr (5, [.ref y2, .int 0, .int 0, .int 0])), (s0, .inr (5, [.ref y0, .int 0, .int 0, .int 0]))])) (va_Qi (fun (r : Int32) (_ : Unit) => r = (-6)) (fun (_ : Unit) (_ : State) => True) (va_A [(h0, .inr (8, [.ref x_tape, .ref x_reader, .ref x_current, .ref x_images, .ref x_kept, .ref x_slots, .ref x_diary, .ref x_base, .ref x_trial, .ref x_plan, .ref x_orders, .ref x_unanswered, .int 0, .int 0, .int (-1)])), (x_slots, .inl (zk, 4, .inr (.inr (.inr (.inr (va_up (va_up (va_up (va_up (fun _ => none) 0 (some s0)) 1 (some s1)) 2 (some s2)) 3 (some s3))))))), (s2, .inr (5, [.ref y2, .int 0, .int 0, .int 0])), (s0, .inr (5, [.ref y0, .int 0, .int 0, .int 0]))] sz)) 0 0 (va_A [(h0, .inr (8, [.ref x_tape, .ref x_reader, .ref x_current, .ref x_images, .ref x_kept, .ref x_slots, .ref x_diary, .ref x_base, .ref x_trial, .ref x_plan, .ref x_orders, .ref x_unanswered, .int 0, .int 0, .int (-1)])), (x_slots, .inl (zk, 4, .inr (.inr (.inr (.inr (va_up (va_up (va_up (va_up (fun _ => none) 0 (some s0)) 1 (some s1)) 2 (some s2)) 3 (some s3))))))), (s2, .inr (5, [.ref y2, .int 0, .int 0, .int 0])), (s0, .inr (5, [.ref y0, .int 0, .int 0, .int 0]))] sz) := by
  refine Met.ofW (cc := cX8_paste) (maxL := 8) (ret := (some .int)) (by decide) rfl ?_
  intro p e s m args below meth c s₁ B hml hv
  obtain ⟨rfl, hsz, hP, hK, hD0⟩ := hv
  have hx := B.exec
  have hb := B.bytes
  have hr := B.returns
  have hts0 := atoms_spec (ws := (.code yX8_paste cX8_paste 8 (some .int) :: ALLW)) B.pre
  have hts := fun (w : Cond) (h : w ∈ ALLW) => hts0 w (List.mem_cons_of_mem _ h)
  have hown : s.vm.findClass RX8 = some m.cls := findClass_of_methodNamed B.named
  have hlocks := B.notSynchronized
  subst hsz
  have hD := hD0.self (sz := s.heap.size)
  generalize hAe : va_A [(h0, .inr (8, [.ref x_tape, .ref x_reader, .ref x_current, .ref x_images, .ref x_kept, .ref x_slots, .ref x_diary, .ref x_base, .ref x_trial, .ref x_plan, .ref x_orders, .ref x_unanswered, .int 0, .int 0, .int (-1)])), (x_slots, .inl (zk, 4, .inr (.inr (.inr (.inr (va_up (va_up (va_up (va_up (fun _ => none) 0 (some s0)) 1 (some s1)) 2 (some s2)) 3 (some s3))))))), (s2, .inr (5, [.ref y2, .int 0, .int 0, .int 0])), (s0, .inr (5, [.ref y0, .int 0, .int 0, .int 0]))] s.heap.size = A at hD ⊢
  have hA : ∀ q : Nat, s.heap.size ≤ q → A q := fun q h => by rw [← hAe]; exact Or.inr h
  have hS : va_S A s.heap s.heap [] := va_S.rf
  have hP : va_P (dC, dI) vwCl [(h0, .inr (8, [.ref x_tape, .ref x_reader, .ref x_current, .ref x_images, .ref x_kept, .ref x_slots, .ref x_diary, .ref x_base, .ref x_trial, .ref x_plan, .ref x_orders, .ref x_unanswered, .int 0, .int 0, .int (-1)])), (x_slots, .inl (zk, 4, .inr (.inr (.inr (.inr (va_up (va_up (va_up (va_up (fun _ => none) 0 (some s0)) 1 (some s1)) 2 (some s2)) 3 (some s3))))))), (s2, .inr (5, [.ref y2, .int 0, .int 0, .int 0])), (s0, .inr (5, [.ref y0, .int 0, .int 0, .int 0]))] s.heap := hP
  have hl := lv_entry ([.ref h0, .int 2, .int b, .int 0, .int a, .int g_]) (n := 8) (Nat.le_of_ble_eq_true rfl)
  rw [lg_entry_eq]
  generalize (lg_sl ([.ref h0, .int 2, .int b, .int 0, .int a, .int g_]) ++ List.replicate (8 - (lg_sl ([.ref h0, .int 2, .int b, .int 0, .int a, .int g_])).length) Slot.unset).toArray = ls at hl ⊢
  have hl : lv_has ls 8 [(0, .ref h0), (1, .int 2), (2, .int b), (3, .int 0), (4, .int a), (5, .int g_)] := hl
  refine lv_aload_n hx hb dX8_paste_0 rfl (lv_at hl 0 rfl) ?_
  refine lv_iload_n hx hb dX8_paste_1 rfl (lv_at hl 1 rfl) ?_
  have hPc := hP.sub (ws' := [(h0, .inr (8, [.ref x_tape, .ref x_reader, .ref x_current, .ref x_images, .ref x_kept, .ref x_slots, .ref x_diary, .ref x_base, .ref x_trial, .ref x_plan, .ref x_orders, .ref x_unanswered, .int 0, .int 0, .int (-1)]))]) [0] rfl
  have hDc := hD.sub (ws' := [(h0, .inr (8, [.ref x_tape, .ref x_reader, .ref x_current, .ref x_images, .ref x_kept, .ref x_slots, .ref x_diary, .ref x_base, .ref x_trial, .ref x_plan, .ref x_orders, .ref x_unanswered, .int 0, .int 0, .int (-1)]))]) [0] (by decide) rfl
  have hKc := hK.sub (tys' := []) [] rfl
  have hFc := va_free (wc := [(h0, .inr (8, [.ref x_tape, .ref x_reader, .ref x_current, .ref x_images, .ref x_kept, .ref x_slots, .ref x_diary, .ref x_base, .ref x_trial, .ref x_plan, .ref x_orders, .ref x_unanswered, .int 0, .int 0, .int (-1)]))]) hD hS hA [0] rfl
  refine va_calli (va_runV (As := [.int 2]) (rest := []) ⟨hx, hb, hml, hown, hts⟩ (c_isSlot2 l dC dI s.heap.size h0 x_tape x_reader x_current x_images x_kept x_slots x_diary x_base x_trial x_plan x_orders x_unanswered ) (cwV 1 hts (goodV w_1288 w_1289 w_1290 w_2 w_1291) rfl rfl rfl hdV_X8_isSlot ⟨Nat.le_of_ble_eq_true rfl, Nat.le_of_ble_eq_true rfl⟩) ⟨fun a U g mk q => by obtain ⟨q0, q1, qP, qK, qD⟩ := q; exact ⟨q0, q1, qP, va_K.moved (u := U) (U := U.calling g mk a) (Vm.Alike.refl U.vm) qK, qD⟩, va_recv hKc hPc (ci := 8) (q0 := 0) rfl rfl, fun U hU hW => ⟨rfl, by rw [hU], by rw [hU]; exact hPc, va_K.moved hW.alike hKc, hDc.weaken (fun _ _ _ _ => trivial)⟩⟩ rfl rfl hl.1 rfl (lv_room (Nat.le_of_ble_eq_true rfl)) dX8_paste_2 ⟨Nat.le_of_ble_eq_true rfl, Nat.le_of_ble_eq_true rfl⟩) hS (fun q _ h => hFc q h) hFc (fun r_1 u t H1 locs ht hvm hw hB hz1 hk1 hS => ?_)
  obtain ⟨hP1, hK1, hD1⟩ := hB
  rw [ht] at hP1
  have hK1 := va_K.moved hvm.symm hK1
  obtain ⟨hP, hD⟩ := va_join (wr := [(x_slots, .inl (zk, 4, .inr (.inr (.inr (.inr (va_up (va_up (va_up (va_up (fun _ => none) 0 (some s0)) 1 (some s1)) 2 (some s2)) 3 (some s3))))))), (s2, .inr (5, [.ref y2, .int 0, .int 0, .int 0])), (s0, .inr (5, [.ref y0, .int 0, .int 0, .int 0]))]) (w1 := [(h0, .inr (8, [.ref x_tape, .ref x_reader, .ref x_current, .ref x_images, .ref x_kept, .ref x_slots, .ref x_diary, .ref x_base, .ref x_trial, .ref x_plan, .ref x_orders, .ref x_unanswered, .int 0, .int 0, .int (-1)]))]) hP hD [0] [1, 2, 3] rfl rfl (by decide) (by decide) hk1 hFc hP1 hD1
  clear hPc hDc hKc hFc
  generalize H1 = H at hP hS ⊢
  have hP : va_P (dC, dI) vwCl [(x_slots, .inl (zk, 4, .inr (.inr (.inr (.inr (va_up (va_up (va_up (va_up (fun _ => none) 0 (some s0)) 1 (some s1)) 2 (some s2)) 3 (some s3))))))), (s2, .inr (5, [.ref y2, .int 0, .int 0, .int 0])), (s0, .inr (5, [.ref y0, .int 0, .int 0, .int 0])), (h0, .inr (8, [.ref x_tape, .ref x_reader, .ref x_current, .ref x_images, .ref x_kept, .ref x_slots, .ref x_diary, .ref x_base, .ref x_trial, .ref x_plan, .ref x_orders, .ref x_unanswered, .int 0, .int 0, .int (-1)]))] H := hP
  have hD : va_D A [(x_slots, .inl (zk, 4, .inr (.inr (.inr (.inr (va_up (va_up (va_up (va_up (fun _ => none) 0 (some s0)) 1 (some s1)) 2 (some s2)) 3 (some s3))))))), (s2, .inr (5, [.ref y2, .int 0, .int 0, .int 0])), (s0, .inr (5, [.ref y0, .int 0, .int 0, .int 0])), (h0, .inr (8, [.ref x_tape, .ref x_reader, .ref x_current, .ref x_images, .ref x_kept, .ref x_slots, .ref x_diary, .ref x_base, .ref x_trial, .ref x_plan, .ref x_orders, .ref x_unanswered, .int 0, .int 0, .int (-1)]))] := hD
  have hw : r_1 = 1 := hw
  subst hw
  refine lv_if_eq (tgt := 16) hx hb dX8_paste_5 (by decide) (fun c_2 => absurd c_2 (by decide)) (fun c_2 => ?_)
  refine lv_aload_n hx hb dX8_paste_8 rfl (lv_at hl 0 rfl) ?_
  refine lv_iload_n hx hb dX8_paste_9 rfl (lv_at hl 3 rfl) ?_
  have hPc := hP.sub (ws' := [(h0, .inr (8, [.ref x_tape, .ref x_reader, .ref x_current, .ref x_images, .ref x_kept, .ref x_slots, .ref x_diary, .ref x_base, .ref x_trial, .ref x_plan, .ref x_orders, .ref x_unanswered, .int 0, .int 0, .int (-1)]))]) [3] rfl
  have hDc := hD.sub (ws' := [(h0, .inr (8, [.ref x_tape, .ref x_reader, .ref x_current, .ref x_images, .ref x_kept, .ref x_slots, .ref x_diary, .ref x_base, .ref x_trial, .ref x_plan, .ref x_orders, .ref x_unanswered, .int 0, .int 0, .int (-1)]))]) [3] (by decide) rfl
  have hKc := hK.sub (tys' := []) [] rfl
  have hFc := va_free (wc := [(h0, .inr (8, [.ref x_tape, .ref x_reader, .ref x_current, .ref x_images, .ref x_kept, .ref x_slots, .ref x_diary, .ref x_base, .ref x_trial, .ref x_plan, .ref x_orders, .ref x_unanswered, .int 0, .int 0, .int (-1)]))]) hD hS hA [3] rfl
  refine va_calli (va_runV (As := [.int 0]) (rest := []) ⟨hx, hb, hml, hown, hts⟩ (c_isSlot0 l dC dI H.size h0 x_tape x_reader x_current x_images x_kept x_slots x_diary x_base x_trial x_plan x_orders x_unanswered ) (cwV 1 hts (goodV w_1288 w_1289 w_1290 w_2 w_1291) rfl rfl rfl hdV_X8_isSlot ⟨Nat.le_of_ble_eq_true rfl, Nat.le_of_ble_eq_true rfl⟩) ⟨fun a U g mk q => by obtain ⟨q0, q1, qP, qK, qD⟩ := q; exact ⟨q0, q1, qP, va_K.moved (u := U) (U := U.calling g mk a) (Vm.Alike.refl U.vm) qK, qD⟩, va_recv hKc hPc (ci := 8) (q0 := 0) rfl rfl, fun U hU hW => ⟨rfl, by rw [hU], by rw [hU]; exact hPc, va_K.moved hW.alike hKc, hDc.weaken (fun _ _ _ _ => trivial)⟩⟩ rfl rfl hl.1 rfl (lv_room (Nat.le_of_ble_eq_true rfl)) dX8_paste_10 ⟨Nat.le_of_ble_eq_true rfl, Nat.le_of_ble_eq_true rfl⟩) hS (fun q _ h => hFc q h) hFc (fun r_3 u t H1 locs ht hvm hw hB hz1 hk1 hS => ?_)
  obtain ⟨hP1, hK1, hD1⟩ := hB
  rw [ht] at hP1
  have hK1 := va_K.moved hvm.symm hK1
  obtain ⟨hP, hD⟩ := va_join (wr := [(x_slots, .inl (zk, 4, .inr (.inr (.inr (.inr (va_up (va_up (va_up (va_up (fun _ => none) 0 (some s0)) 1 (some s1)) 2 (some s2)) 3 (some s3))))))), (s2, .inr (5, [.ref y2, .int 0, .int 0, .int 0])), (s0, .inr (5, [.ref y0, .int 0, .int 0, .int 0]))]) (w1 := [(h0, .inr (8, [.ref x_tape, .ref x_reader, .ref x_current, .ref x_images, .ref x_kept, .ref x_slots, .ref x_diary, .ref x_base, .ref x_trial, .ref x_plan, .ref x_orders, .ref x_unanswered, .int 0, .int 0, .int (-1)]))]) hP hD [3] [0, 1, 2] rfl rfl (by decide) (by decide) hk1 hFc hP1 hD1
  clear hPc hDc hKc hFc
  generalize H1 = H at hP hS ⊢
  have hP : va_P (dC, dI) vwCl [(x_slots, .inl (zk, 4, .inr (.inr (.inr (.inr (va_up (va_up (va_up (va_up (fun _ => none) 0 (some s0)) 1 (some s1)) 2 (some s2)) 3 (some s3))))))), (s2, .inr (5, [.ref y2, .int 0, .int 0, .int 0])), (s0, .inr (5, [.ref y0, .int 0, .int 0, .int 0])), (h0, .inr (8, [.ref x_tape, .ref x_reader, .ref x_current, .ref x_images, .ref x_kept, .ref x_slots, .ref x_diary, .ref x_base, .ref x_trial, .ref x_plan, .ref x_orders, .ref x_unanswered, .int 0, .int 0, .int (-1)]))] H := hP
  have hD : va_D A [(x_slots, .inl (zk, 4, .inr (.inr (.inr (.inr (va_up (va_up (va_up (va_up (fun _ => none) 0 (some s0)) 1 (some s1)) 2 (some s2)) 3 (some s3))))))), (s2, .inr (5, [.ref y2, .int 0, .int 0, .int 0])), (s0, .inr (5, [.ref y0, .int 0, .int 0, .int 0])), (h0, .inr (8, [.ref x_tape, .ref x_reader, .ref x_current, .ref x_images, .ref x_kept, .ref x_slots, .ref x_diary, .ref x_base, .ref x_trial, .ref x_plan, .ref x_orders, .ref x_unanswered, .int 0, .int 0, .int (-1)]))] := hD
  have hw : r_3 = 1 := hw
  subst hw
  refine lv_if_ne (tgt := 19) hx hb dX8_paste_13 (by decide) (fun c_4 => ?_) (fun c_4 => absurd c_4 (by decide))
  refine lv_aload_n hx hb dX8_paste_19 rfl (lv_at hl 0 rfl) ?_
  refine va_get (D := (dC, dI)) (ci := 8) (v := .ref x_slots) (C := RX8) (T := TX8) (N := 15) hx hb hts inA8 hown hK hP 3 rfl rfl 5 (by decide) (hts _ w_29) (fun _ h9 => h9) rfl dX8_paste_20 ?_
  refine lv_iload_n hx hb dX8_paste_23 rfl (lv_at hl 1 rfl) ?_
  refine va_aldq hx hb hK hP 0 0 rfl rfl (show vp_in 2 4 from (by unfold vp_in; decide)) dX8_paste_24 ?_
  refine W.eq (g2 := F0 m 25 ls [.ref s2]) rfl ?_
  refine lv_astore (lv' := [(6, .ref s2), (0, .ref h0), (1, .int 2), (2, .int b), (3, .int 0), (4, .int a), (5, .int g_)]) hx hb dX8_paste_25 hl (by decide) rfl (fun ls hl => ?_)
  refine lv_aload_n hx hb dX8_paste_27 rfl (lv_at hl 1 rfl) ?_
  refine va_get (D := (dC, dI)) (ci := 8) (v := .ref x_slots) (C := RX8) (T := TX8) (N := 15) hx hb hts inA8 hown hK hP 3 rfl rfl 5 (by decide) (hts _ w_29) (fun _ h9 => h9) rfl dX8_paste_28 ?_
  refine lv_iload_n hx hb dX8_paste_31 rfl (lv_at hl 4 rfl) ?_
  refine va_aldq hx hb hK hP 0 0 rfl rfl (show vp_in 0 4 from (by unfold vp_in; decide)) dX8_paste_32 ?_
  refine W.eq (g2 := F0 m 33 ls [.ref s0]) rfl ?_
  refine lv_astore (lv' := [(7, .ref s0), (6, .ref s2), (0, .ref h0), (1, .int 2), (2, .int b), (3, .int 0), (4, .int a), (5, .int g_)]) hx hb dX8_paste_33 hl (by decide) rfl (fun ls hl => ?_)
  refine lv_aload hx hb dX8_paste_35 (lv_at hl 1 rfl) ?_
  refine va_get (D := (dC, dI)) (ci := 5) (v := .int 0) (C := RX5) (T := TX5) (N := 4) hx hb hts inA5 hown hK hP 1 rfl rfl 1 (by decide) (hts _ w_1283) (fun _ h9 => h9) rfl dX8_paste_37 ?_
  refine lv_if_eq (tgt := 51) hx hb dX8_paste_40 (by decide) (fun c_5 => ?_) (fun c_5 => absurd (by decide) c_5)
  refine lv_bipush (v := (-6)) hx hb dX8_paste_51 (by decide) ?_
  exact W.iret (v := (-6)) hx hb hr (fun t ht hW => ⟨⟨(-6), (), rfl, rfl, trivial⟩, hS.F ht⟩) hS.2.2 dX8_paste_53
set_option maxHeartbeats 4000000 in
set_option maxRecDepth 100000 in
theorem x_paste21 (l : Launch) (dC : Nat → ClassId) (dI : Nat → Nat → Nat) (sz : Nat) (h0 : Nat) (x_tape : Nat) (x_reader : Nat) (x_current : Nat) (x_images : Nat) (x_kept : Nat) (x_slots : Nat) (x_diary : Nat) (x_base : Nat) (x_trial : Nat) (x_plan : Nat) (x_orders : Nat) (x_unanswered : Nat) (s0 : Nat) (s1 : Nat) (s2 : Nat) (s3 : Nat) (y0 : Nat) (y1 : Nat) (y2 : Nat) (y3 : Nat) (zk : ClassId) (b : Int32) (a : Int32) (g_ : Int32)  : Met l yX8_paste (.code yX8_paste cX8_paste 8 (some .int) :: ALLW) ({ frames := 1, cells := 0, slots := 0, locals := 21 }) (va_Pc [.ref h0, .int 2, .int b, .int 1, .int a, .int g_] (fun U => U.heap.size = sz ∧ va_P (dC, dI) vwCl [(h0, .inr (8, [.ref x_tape, .ref x_reader, .ref x_current, .ref x_images, .ref x_kept, .ref x_slots, .ref x_diary, .ref x_base, .ref x_trial, .ref x_plan, .ref x_orders, .ref x_unanswered, .int 0, .int 0, .int (-1)])), (x_slots, .inl (zk, 4, .inr (.inr (.inr (.inr (va_up (va_up (va_up (va_up (fun _ => none) 0 (some s0)) 1 (some s1)) 2 (some s2)) 3 (some s3))))))), (s2, .inr (5, [.ref y2, .int 0, .int 0, .int 0])), (s1, .inr (5, [.ref y1, .int 0, .int 0, .int 0]))] U.heap ∧ va_K (dC, dI) vwCl [(zk, .object RX5)] U ∧ va_D (fun _ => True) [(h0, .inr (8, [.ref x_tape, .ref x_reader, .ref x_current, .ref x_images, .ref x_kept, .ref x_slots, .ref x_diary, .ref x_base, .ref x_trial, .ref x_plan, .ref x_orders, .ref x_unanswered, .int 0, .int 0, .int (-1)])), (x_slots, .inl (zk, 4, .inr (.inr (.inr (.inr (va_up (va_up (va_up (va_up (fun _ => none) 0 (some s0)) 1 (some s1)) 2 (some s2)) 3 (some s3))))))), (s2, .inr (5, [.ref y2, .int 0, .int 0, .int 0])), (s1, .inr (5, [.ref y1, .int 0, .int 0, .int 0]))])) (va_Qi (fun (r : Int32) (_ : Unit) => r = (-6)) (fun (_ : Unit) (_ : State) => True) (va_A [(h0, .inr (8, [.ref x_tape, .ref x_reader, .ref x_current, .ref x_images, .ref x_kept, .ref x_slots, .ref x_diary, .ref x_base, .ref x_trial, .ref x_plan, .ref x_orders, .ref x_unanswered, .int 0, .int 0, .int (-1)])), (x_slots, .inl (zk, 4, .inr (.inr (.inr (.inr (va_up (va_up (va_up (va_up (fun _ => none) 0 (some s0)) 1 (some s1)) 2 (some s2)) 3 (some s3))))))), (s2, .inr (5, [.ref y2, .int 0, .int 0, .int 0])), (s1, .inr (5, [.ref y1, .int 0, .int 0, .int 0]))] sz)) 0 0 (va_A [(h0, .inr (8, [.ref x_tape, .ref x_reader, .ref x_current, .ref x_images, .ref x_kept, .ref x_slots, .ref x_diary, .ref x_base, .ref x_trial, .ref x_plan, .ref x_orders, .ref x_unanswered, .int 0, .int 0, .int (-1)])), (x_slots, .inl (zk, 4, .inr (.inr (.inr (.inr (va_up (va_up (va_up (va_up (fun _ => none) 0 (some s0)) 1 (some s1)) 2 (some s2)) 3 (some s3))))))), (s2, .inr (5, [.ref y2, .int 0, .int 0, .int 0])), (s1, .inr (5, [.ref y1, .int 0, .int 0, .int 0]))] sz) := by
  refine Met.ofW (cc := cX8_paste) (maxL := 8) (ret := (some .int)) (by decide) rfl ?_
  intro p e s m args below meth c s₁ B hml hv
  obtain ⟨rfl, hsz, hP, hK, hD0⟩ := hv
  have hx := B.exec
  have hb := B.bytes
  have hr := B.returns
  have hts0 := atoms_spec (ws := (.code yX8_paste cX8_paste 8 (some .int) :: ALLW)) B.pre
  have hts := fun (w : Cond) (h : w ∈ ALLW) => hts0 w (List.mem_cons_of_mem _ h)
  have hown : s.vm.findClass RX8 = some m.cls := findClass_of_methodNamed B.named
  have hlocks := B.notSynchronized
  subst hsz
  have hD := hD0.self (sz := s.heap.size)
  generalize hAe : va_A [(h0, .inr (8, [.ref x_tape, .ref x_reader, .ref x_current, .ref x_images, .ref x_kept, .ref x_slots, .ref x_diary, .ref x_base, .ref x_trial, .ref x_plan, .ref x_orders, .ref x_unanswered, .int 0, .int 0, .int (-1)])), (x_slots, .inl (zk, 4, .inr (.inr (.inr (.inr (va_up (va_up (va_up (va_up (fun _ => none) 0 (some s0)) 1 (some s1)) 2 (some s2)) 3 (some s3))))))), (s2, .inr (5, [.ref y2, .int 0, .int 0, .int 0])), (s1, .inr (5, [.ref y1, .int 0, .int 0, .int 0]))] s.heap.size = A at hD ⊢
  have hA : ∀ q : Nat, s.heap.size ≤ q → A q := fun q h => by rw [← hAe]; exact Or.inr h
  have hS : va_S A s.heap s.heap [] := va_S.rf
  have hP : va_P (dC, dI) vwCl [(h0, .inr (8, [.ref x_tape, .ref x_reader, .ref x_current, .ref x_images, .ref x_kept, .ref x_slots, .ref x_diary, .ref x_base, .ref x_trial, .ref x_plan, .ref x_orders, .ref x_unanswered, .int 0, .int 0, .int (-1)])), (x_slots, .inl (zk, 4, .inr (.inr (.inr (.inr (va_up (va_up (va_up (va_up (fun _ => none) 0 (some s0)) 1 (some s1)) 2 (some s2)) 3 (some s3))))))), (s2, .inr (5, [.ref y2, .int 0, .int 0, .int 0])), (s1, .inr (5, [.ref y1, .int 0, .int 0, .int 0]))] s.heap := hP
  have hl := lv_entry ([.ref h0, .int 2, .int b, .int 1, .int a, .int g_]) (n := 8) (Nat.le_of_ble_eq_true rfl)
  rw [lg_entry_eq]
  generalize (lg_sl ([.ref h0, .int 2, .int b, .int 1, .int a, .int g_]) ++ List.replicate (8 - (lg_sl ([.ref h0, .int 2, .int b, .int 1, .int a, .int g_])).length) Slot.unset).toArray = ls at hl ⊢
  have hl : lv_has ls 8 [(0, .ref h0), (1, .int 2), (2, .int b), (3, .int 1), (4, .int a), (5, .int g_)] := hl
  refine lv_aload_n hx hb dX8_paste_0 rfl (lv_at hl 0 rfl) ?_
  refine lv_iload_n hx hb dX8_paste_1 rfl (lv_at hl 1 rfl) ?_
  have hPc := hP.sub (ws' := [(h0, .inr (8, [.ref x_tape, .ref x_reader, .ref x_current, .ref x_images, .ref x_kept, .ref x_slots, .ref x_diary, .ref x_base, .ref x_trial, .ref x_plan, .ref x_orders, .ref x_unanswered, .int 0, .int 0, .int (-1)]))]) [0] rfl
  have hDc := hD.sub (ws' := [(h0, .inr (8, [.ref x_tape, .ref x_reader, .ref x_current, .ref x_images, .ref x_kept, .ref x_slots, .ref x_diary, .ref x_base, .ref x_trial, .ref x_plan, .ref x_orders, .ref x_unanswered, .int 0, .int 0, .int (-1)]))]) [0] (by decide) rfl
  have hKc := hK.sub (tys' := []) [] rfl
  have hFc := va_free (wc := [(h0, .inr (8, [.ref x_tape, .ref x_reader, .ref x_current, .ref x_images, .ref x_kept, .ref x_slots, .ref x_diary, .ref x_base, .ref x_trial, .ref x_plan, .ref x_orders, .ref x_unanswered, .int 0, .int 0, .int (-1)]))]) hD hS hA [0] rfl
  refine va_calli (va_runV (As := [.int 2]) (rest := []) ⟨hx, hb, hml, hown, hts⟩ (c_isSlot2 l dC dI s.heap.size h0 x_tape x_reader x_current x_images x_kept x_slots x_diary x_base x_trial x_plan x_orders x_unanswered ) (cwV 1 hts (goodV w_1288 w_1289 w_1290 w_2 w_1291) rfl rfl rfl hdV_X8_isSlot ⟨Nat.le_of_ble_eq_true rfl, Nat.le_of_ble_eq_true rfl⟩) ⟨fun a U g mk q => by obtain ⟨q0, q1, qP, qK, qD⟩ := q; exact ⟨q0, q1, qP, va_K.moved (u := U) (U := U.calling g mk a) (Vm.Alike.refl U.vm) qK, qD⟩, va_recv hKc hPc (ci := 8) (q0 := 0) rfl rfl, fun U hU hW => ⟨rfl, by rw [hU], by rw [hU]; exact hPc, va_K.moved hW.alike hKc, hDc.weaken (fun _ _ _ _ => trivial)⟩⟩ rfl rfl hl.1 rfl (lv_room (Nat.le_of_ble_eq_true rfl)) dX8_paste_2 ⟨Nat.le_of_ble_eq_true rfl, Nat.le_of_ble_eq_true rfl⟩) hS (fun q _ h => hFc q h) hFc (fun r_1 u t H1 locs ht hvm hw hB hz1 hk1 hS => ?_)
  obtain ⟨hP1, hK1, hD1⟩ := hB
  rw [ht] at hP1
  have hK1 := va_K.moved hvm.symm hK1
  obtain ⟨hP, hD⟩ := va_join (wr := [(x_slots, .inl (zk, 4, .inr (.inr (.inr (.inr (va_up (va_up (va_up (va_up (fun _ => none) 0 (some s0)) 1 (some s1)) 2 (some s2)) 3 (some s3))))))), (s2, .inr (5, [.ref y2, .int 0, .int 0, .int 0])), (s1, .inr (5, [.ref y1, .int 0, .int 0, .int 0]))]) (w1 := [(h0, .inr (8, [.ref x_tape, .ref x_reader, .ref x_current, .ref x_images, .ref x_kept, .ref x_slots, .ref x_diary, .ref x_base, .ref x_trial, .ref x_plan, .ref x_orders, .ref x_unanswered, .int 0, .int 0, .int (-1)]))]) hP hD [0] [1, 2, 3] rfl rfl (by decide) (by decide) hk1 hFc hP1 hD1
  clear hPc hDc hKc hFc
  generalize H1 = H at hP hS ⊢
  have hP : va_P (dC, dI) vwCl [(x_slots, .inl (zk, 4, .inr (.inr (.inr (.inr (va_up (va_up (va_up (va_up (fun _ => none) 0 (some s0)) 1 (some s1)) 2 (some s2)) 3 (some s3))))))), (s2, .inr (5, [.ref y2, .int 0, .int 0, .int 0])), (s1, .inr (5, [.ref y1, .int 0, .int 0, .int 0])), (h0, .inr (8, [.ref x_tape, .ref x_reader, .ref x_current, .ref x_images, .ref x_kept, .ref x_slots, .ref x_diary, .ref x_base, .ref x_trial, .ref x_plan, .ref x_orders, .ref x_unanswered, .int 0, .int 0, .int (-1)]))] H := hP
  have hD : va_D A [(x_slots, .inl (zk, 4, .inr (.inr (.inr (.inr (va_up (va_up (va_up (va_up (fun _ => none) 0 (some s0)) 1 (some s1)) 2 (some s2)) 3 (some s3))))))), (s2, .inr (5, [.ref y2, .int 0, .int 0, .int 0])), (s1, .inr (5, [.ref y1, .int 0, .int 0, .int 0])), (h0, .inr (8, [.ref x_tape, .ref x_reader, .ref x_current, .ref x_images, .ref x_kept, .ref x_slots, .ref x_diary, .ref x_base, .ref x_trial, .ref x_plan, .ref x_orders, .ref x_unanswered, .int 0, .int 0, .int (-1)]))] := hD
  have hw : r_1 = 1 := hw
  subst hw
  refine lv_if_eq (tgt := 16) hx hb dX8_paste_5 (by decide) (fun c_2 => absurd c_2 (by decide)) (fun c_2 => ?_)
  refine lv_aload_n hx hb dX8_paste_8 rfl (lv_at hl 0 rfl) ?_
  refine lv_iload_n hx hb dX8_paste_9 rfl (lv_at hl 3 rfl) ?_
  have hPc := hP.sub (ws' := [(h0, .inr (8, [.ref x_tape, .ref x_reader, .ref x_current, .ref x_images, .ref x_kept, .ref x_slots, .ref x_diary, .ref x_base, .ref x_trial, .ref x_plan, .ref x_orders, .ref x_unanswered, .int 0, .int 0, .int (-1)]))]) [3] rfl
  have hDc := hD.sub (ws' := [(h0, .inr (8, [.ref x_tape, .ref x_reader, .ref x_current, .ref x_images, .ref x_kept, .ref x_slots, .ref x_diary, .ref x_base, .ref x_trial, .ref x_plan, .ref x_orders, .ref x_unanswered, .int 0, .int 0, .int (-1)]))]) [3] (by decide) rfl
  have hKc := hK.sub (tys' := []) [] rfl
  have hFc := va_free (wc := [(h0, .inr (8, [.ref x_tape, .ref x_reader, .ref x_current, .ref x_images, .ref x_kept, .ref x_slots, .ref x_diary, .ref x_base, .ref x_trial, .ref x_plan, .ref x_orders, .ref x_unanswered, .int 0, .int 0, .int (-1)]))]) hD hS hA [3] rfl
  refine va_calli (va_runV (As := [.int 1]) (rest := []) ⟨hx, hb, hml, hown, hts⟩ (c_isSlot1 l dC dI H.size h0 x_tape x_reader x_current x_images x_kept x_slots x_diary x_base x_trial x_plan x_orders x_unanswered ) (cwV 1 hts (goodV w_1288 w_1289 w_1290 w_2 w_1291) rfl rfl rfl hdV_X8_isSlot ⟨Nat.le_of_ble_eq_true rfl, Nat.le_of_ble_eq_true rfl⟩) ⟨fun a U g mk q => by obtain ⟨q0, q1, qP, qK, qD⟩ := q; exact ⟨q0, q1, qP, va_K.moved (u := U) (U := U.calling g mk a) (Vm.Alike.refl U.vm) qK, qD⟩, va_recv hKc hPc (ci := 8) (q0 := 0) rfl rfl, fun U hU hW => ⟨rfl, by rw [hU], by rw [hU]; exact hPc, va_K.moved hW.alike hKc, hDc.weaken (fun _ _ _ _ => trivial)⟩⟩ rfl rfl hl.1 rfl (lv_room (Nat.le_of_ble_eq_true rfl)) dX8_paste_10 ⟨Nat.le_of_ble_eq_true rfl, Nat.le_of_ble_eq_true rfl⟩) hS (fun q _ h => hFc q h) hFc (fun r_3 u t H1 locs ht hvm hw hB hz1 hk1 hS => ?_)
  obtain ⟨hP1, hK1, hD1⟩ := hB
  rw [ht] at hP1
  have hK1 := va_K.moved hvm.symm hK1
  obtain ⟨hP, hD⟩ := va_join (wr := [(x_slots, .inl (zk, 4, .inr (.inr (.inr (.inr (va_up (va_up (va_up (va_up (fun _ => none) 0 (some s0)) 1 (some s1)) 2 (some s2)) 3 (some s3))))))), (s2, .inr (5, [.ref y2, .int 0, .int 0, .int 0])), (s1, .inr (5, [.ref y1, .int 0, .int 0, .int 0]))]) (w1 := [(h0, .inr (8, [.ref x_tape, .ref x_reader, .ref x_current, .ref x_images, .ref x_kept, .ref x_slots, .ref x_diary, .ref x_base, .ref x_trial, .ref x_plan, .ref x_orders, .ref x_unanswered, .int 0, .int 0, .int (-1)]))]) hP hD [3] [0, 1, 2] rfl rfl (by decide) (by decide) hk1 hFc hP1 hD1
  clear hPc hDc hKc hFc
  generalize H1 = H at hP hS ⊢
  have hP : va_P (dC, dI) vwCl [(x_slots, .inl (zk, 4, .inr (.inr (.inr (.inr (va_up (va_up (va_up (va_up (fun _ => none) 0 (some s0)) 1 (some s1)) 2 (some s2)) 3 (some s3))))))), (s2, .inr (5, [.ref y2, .int 0, .int 0, .int 0])), (s1, .inr (5, [.ref y1, .int 0, .int 0, .int 0])), (h0, .inr (8, [.ref x_tape, .ref x_reader, .ref x_current, .ref x_images, .ref x_kept, .ref x_slots, .ref x_diary, .ref x_base, .ref x_trial, .ref x_plan, .ref x_orders, .ref x_unanswered, .int 0, .int 0, .int (-1)]))] H := hP
  have hD : va_D A [(x_slots, .inl (zk, 4, .inr (.inr (.inr (.inr (va_up (va_up (va_up (va_up (fun _ => none) 0 (some s0)) 1 (some s1)) 2 (some s2)) 3 (some s3))))))), (s2, .inr (5, [.ref y2, .int 0, .int 0, .int 0])), (s1, .inr (5, [.ref y1, .int 0, .int 0, .int 0])), (h0, .inr (8, [.ref x_tape, .ref x_reader, .ref x_current, .ref x_images, .ref x_kept, .ref x_slots, .ref x_diary, .ref x_base, .ref x_trial, .ref x_plan, .ref x_orders, .ref x_unanswered, .int 0, .int 0, .int (-1)]))] := hD
  have hw : r_3 = 1 := hw
  subst hw
  refine lv_if_ne (tgt := 19) hx hb dX8_paste_13 (by decide) (fun c_4 => ?_) (fun c_4 => absurd c_4 (by decide))
  refine lv_aload_n hx hb dX8_paste_19 rfl (lv_at hl 0 rfl) ?_
  refine va_get (D := (dC, dI)) (ci := 8) (v := .ref x_slots) (C := RX8) (T := TX8) (N := 15) hx hb hts inA8 hown hK hP 3 rfl rfl 5 (by decide) (hts _ w_29) (fun _ h9 => h9) rfl dX8_paste_20 ?_
  refine lv_iload_n hx hb dX8_paste_23 rfl (lv_at hl 1 rfl) ?_
  refine va_aldq hx hb hK hP 0 0 rfl rfl (show vp_in 2 4 from (by unfold vp_in; decide)) dX8_paste_24 ?_
  refine W.eq (g2 := F0 m 25 ls [.ref s2]) rfl ?_
  refine lv_astore (lv' := [(6, .ref s2), (0, .ref h0), (1, .int 2), (2, .int b), (3, .int 1), (4, .int a), (5, .int g_)]) hx hb dX8_paste_25 hl (by decide) rfl (fun ls hl => ?_)
  refine lv_aload_n hx hb dX8_paste_27 rfl (lv_at hl 1 rfl) ?_
  refine va_get (D := (dC, dI)) (ci := 8) (v := .ref x_slots) (C := RX8) (T := TX8) (N := 15) hx hb hts inA8 hown hK hP 3 rfl rfl 5 (by decide) (hts _ w_29) (fun _ h9 => h9) rfl dX8_paste_28 ?_
  refine lv_iload_n hx hb dX8_paste_31 rfl (lv_at hl 4 rfl) ?_
  refine va_aldq hx hb hK hP 0 0 rfl rfl (show vp_in 1 4 from (by unfold vp_in; decide)) dX8_paste_32 ?_
  refine W.eq (g2 := F0 m 33 ls [.ref s1]) rfl ?_
  refine lv_astore (lv' := [(7, .ref s1), (6, .ref s2), (0, .ref h0), (1, .int 2), (2, .int b), (3, .int 1), (4, .int a), (5, .int g_)]) hx hb dX8_paste_33 hl (by decide) rfl (fun ls hl => ?_)
  refine lv_aload hx hb dX8_paste_35 (lv_at hl 1 rfl) ?_
  refine va_get (D := (dC, dI)) (ci := 5) (v := .int 0) (C := RX5) (T := TX5) (N := 4) hx hb hts inA5 hown hK hP 1 rfl rfl 1 (by decide) (hts _ w_1283) (fun _ h9 => h9) rfl dX8_paste_37 ?_
  refine lv_if_eq (tgt := 51) hx hb dX8_paste_40 (by decide) (fun c_5 => ?_) (fun c_5 => absurd (by decide) c_5)
  refine lv_bipush (v := (-6)) hx hb dX8_paste_51 (by decide) ?_
  exact W.iret (v := (-6)) hx hb hr (fun t ht hW => ⟨⟨(-6), (), rfl, rfl, trivial⟩, hS.F ht⟩) hS.2.2 dX8_paste_53
set_option maxHeartbeats 4000000 in
set_option maxRecDepth 100000 in
theorem x_paste22 (l : Launch) (dC : Nat → ClassId) (dI : Nat → Nat → Nat) (sz : Nat) (h0 : Nat) (x_tape : Nat) (x_reader : Nat) (x_current : Nat) (x_images : Nat) (x_kept : Nat) (x_slots : Nat) (x_diary : Nat) (x_base : Nat) (x_trial : Nat) (x_plan : Nat) (x_orders : Nat) (x_unanswered : Nat) (s0 : Nat) (s1 : Nat) (s2 : Nat) (s3 : Nat) (y0 : Nat) (y1 : Nat) (y2 : Nat) (y3 : Nat) (zk : ClassId) (b : Int32) (a : Int32) (g_ : Int32)  : Met l yX8_paste (.code yX8_paste cX8_paste 8 (some .int) :: ALLW) ({ frames := 1, cells := 0, slots := 0, locals := 21 }) (va_Pc [.ref h0, .int 2, .int b, .int 2, .int a, .int g_] (fun U => U.heap.size = sz ∧ va_P (dC, dI) vwCl [(h0, .inr (8, [.ref x_tape, .ref x_reader, .ref x_current, .ref x_images, .ref x_kept, .ref x_slots, .ref x_diary, .ref x_base, .ref x_trial, .ref x_plan, .ref x_orders, .ref x_unanswered, .int 0, .int 0, .int (-1)])), (x_slots, .inl (zk, 4, .inr (.inr (.inr (.inr (va_up (va_up (va_up (va_up (fun _ => none) 0 (some s0)) 1 (some s1)) 2 (some s2)) 3 (some s3))))))), (s2, .inr (5, [.ref y2, .int 0, .int 0, .int 0]))] U.heap ∧ va_K (dC, dI) vwCl [(zk, .object RX5)] U ∧ va_D (fun _ => True) [(h0, .inr (8, [.ref x_tape, .ref x_reader, .ref x_current, .ref x_images, .ref x_kept, .ref x_slots, .ref x_diary, .ref x_base, .ref x_trial, .ref x_plan, .ref x_orders, .ref x_unanswered, .int 0, .int 0, .int (-1)])), (x_slots, .inl (zk, 4, .inr (.inr (.inr (.inr (va_up (va_up (va_up (va_up (fun _ => none) 0 (some s0)) 1 (some s1)) 2 (some s2)) 3 (some s3))))))), (s2, .inr (5, [.ref y2, .int 0, .int 0, .int 0]))])) (va_Qi (fun (r : Int32) (_ : Unit) => r = (-6)) (fun (_ : Unit) (_ : State) => True) (va_A [(h0, .inr (8, [.ref x_tape, .ref x_reader, .ref x_current, .ref x_images, .ref x_kept, .ref x_slots, .ref x_diary, .ref x_base, .ref x_trial, .ref x_plan, .ref x_orders, .ref x_unanswered, .int 0, .int 0, .int (-1)])), (x_slots, .inl (zk, 4, .inr (.inr (.inr (.inr (va_up (va_up (va_up (va_up (fun _ => none) 0 (some s0)) 1 (some s1)) 2 (some s2)) 3 (some s3))))))), (s2, .inr (5, [.ref y2, .int 0, .int 0, .int 0]))] sz)) 0 0 (va_A [(h0, .inr (8, [.ref x_tape, .ref x_reader, .ref x_current, .ref x_images, .ref x_kept, .ref x_slots, .ref x_diary, .ref x_base, .ref x_trial, .ref x_plan, .ref x_orders, .ref x_unanswered, .int 0, .int 0, .int (-1)])), (x_slots, .inl (zk, 4, .inr (.inr (.inr (.inr (va_up (va_up (va_up (va_up (fun _ => none) 0 (some s0)) 1 (some s1)) 2 (some s2)) 3 (some s3))))))), (s2, .inr (5, [.ref y2, .int 0, .int 0, .int 0]))] sz) := by
  refine Met.ofW (cc := cX8_paste) (maxL := 8) (ret := (some .int)) (by decide) rfl ?_
  intro p e s m args below meth c s₁ B hml hv
  obtain ⟨rfl, hsz, hP, hK, hD0⟩ := hv
  have hx := B.exec
  have hb := B.bytes
  have hr := B.returns
  have hts0 := atoms_spec (ws := (.code yX8_paste cX8_paste 8 (some .int) :: ALLW)) B.pre
  have hts := fun (w : Cond) (h : w ∈ ALLW) => hts0 w (List.mem_cons_of_mem _ h)
  have hown : s.vm.findClass RX8 = some m.cls := findClass_of_methodNamed B.named
  have hlocks := B.notSynchronized
  subst hsz
  have hD := hD0.self (sz := s.heap.size)
  generalize hAe : va_A [(h0, .inr (8, [.ref x_tape, .ref x_reader, .ref x_current, .ref x_images, .ref x_kept, .ref x_slots, .ref x_diary, .ref x_base, .ref x_trial, .ref x_plan, .ref x_orders, .ref x_unanswered, .int 0, .int 0, .int (-1)])), (x_slots, .inl (zk, 4, .inr (.inr (.inr (.inr (va_up (va_up (va_up (va_up (fun _ => none) 0 (some s0)) 1 (some s1)) 2 (some s2)) 3 (some s3))))))), (s2, .inr (5, [.ref y2, .int 0, .int 0, .int 0]))] s.heap.size = A at hD ⊢
  have hA : ∀ q : Nat, s.heap.size ≤ q → A q := fun q h => by rw [← hAe]; exact Or.inr h
  have hS : va_S A s.heap s.heap [] := va_S.rf
  have hP : va_P (dC, dI) vwCl [(h0, .inr (8, [.ref x_tape, .ref x_reader, .ref x_current, .ref x_images, .ref x_kept, .ref x_slots, .ref x_diary, .ref x_base, .ref x_trial, .ref x_plan, .ref x_orders, .ref x_unanswered, .int 0, .int 0, .int (-1)])), (x_slots, .inl (zk, 4, .inr (.inr (.inr (.inr (va_up (va_up (va_up (va_up (fun _ => none) 0 (some s0)) 1 (some s1)) 2 (some s2)) 3 (some s3))))))), (s2, .inr (5, [.ref y2, .int 0, .int 0, .int 0]))] s.heap := hP
  have hl := lv_entry ([.ref h0, .int 2, .int b, .int 2, .int a, .int g_]) (n := 8) (Nat.le_of_ble_eq_true rfl)
  rw [lg_entry_eq]
  generalize (lg_sl ([.ref h0, .int 2, .int b, .int 2, .int a, .int g_]) ++ List.replicate (8 - (lg_sl ([.ref h0, .int 2, .int b, .int 2, .int a, .int g_])).length) Slot.unset).toArray = ls at hl ⊢
  have hl : lv_has ls 8 [(0, .ref h0), (1, .int 2), (2, .int b), (3, .int 2), (4, .int a), (5, .int g_)] := hl
  refine lv_aload_n hx hb dX8_paste_0 rfl (lv_at hl 0 rfl) ?_
  refine lv_iload_n hx hb dX8_paste_1 rfl (lv_at hl 1 rfl) ?_
  have hPc := hP.sub (ws' := [(h0, .inr (8, [.ref x_tape, .ref x_reader, .ref x_current, .ref x_images, .ref x_kept, .ref x_slots, .ref x_diary, .ref x_base, .ref x_trial, .ref x_plan, .ref x_orders, .ref x_unanswered, .int 0, .int 0, .int (-1)]))]) [0] rfl
  have hDc := hD.sub (ws' := [(h0, .inr (8, [.ref x_tape, .ref x_reader, .ref x_current, .ref x_images, .ref x_kept, .ref x_slots, .ref x_diary, .ref x_base, .ref x_trial, .ref x_plan, .ref x_orders, .ref x_unanswered, .int 0, .int 0, .int (-1)]))]) [0] (by decide) rfl
  have hKc := hK.sub (tys' := []) [] rfl
  have hFc := va_free (wc := [(h0, .inr (8, [.ref x_tape, .ref x_reader, .ref x_current, .ref x_images, .ref x_kept, .ref x_slots, .ref x_diary, .ref x_base, .ref x_trial, .ref x_plan, .ref x_orders, .ref x_unanswered, .int 0, .int 0, .int (-1)]))]) hD hS hA [0] rfl
  refine va_calli (va_runV (As := [.int 2]) (rest := []) ⟨hx, hb, hml, hown, hts⟩ (c_isSlot2 l dC dI s.heap.size h0 x_tape x_reader x_current x_images x_kept x_slots x_diary x_base x_trial x_plan x_orders x_unanswered ) (cwV 1 hts (goodV w_1288 w_1289 w_1290 w_2 w_1291) rfl rfl rfl hdV_X8_isSlot ⟨Nat.le_of_ble_eq_true rfl, Nat.le_of_ble_eq_true rfl⟩) ⟨fun a U g mk q => by obtain ⟨q0, q1, qP, qK, qD⟩ := q; exact ⟨q0, q1, qP, va_K.moved (u := U) (U := U.calling g mk a) (Vm.Alike.refl U.vm) qK, qD⟩, va_recv hKc hPc (ci := 8) (q0 := 0) rfl rfl, fun U hU hW => ⟨rfl, by rw [hU], by rw [hU]; exact hPc, va_K.moved hW.alike hKc, hDc.weaken (fun _ _ _ _ => trivial)⟩⟩ rfl rfl hl.1 rfl (lv_room (Nat.le_of_ble_eq_true rfl)) dX8_paste_2 ⟨Nat.le_of_ble_eq_true rfl, Nat.le_of_ble_eq_true rfl⟩) hS (fun q _ h => hFc q h) hFc (fun r_1 u t H1 locs ht hvm hw hB hz1 hk1 hS => ?_)
  obtain ⟨hP1, hK1, hD1⟩ := hB
  rw [ht] at hP1
  have hK1 := va_K.moved hvm.symm hK1
  obtain ⟨hP, hD⟩ := va_join (wr := [(x_slots, .inl (zk, 4, .inr (.inr (.inr (.inr (va_up (va_up (va_up (va_up (fun _ => none) 0 (some s0)) 1 (some s1)) 2 (some s2)) 3 (some s3))))))), (s2, .inr (5, [.ref y2, .int 0, .int 0, .int 0]))]) (w1 := [(h0, .inr (8, [.ref x_tape, .ref x_reader, .ref x_current, .ref x_images, .ref x_kept, .ref x_slots, .ref x_diary, .ref x_base, .ref x_trial, .ref x_plan, .ref x_orders, .ref x_unanswered, .int 0, .int 0, .int (-1)]))]) hP hD [0] [1, 2] rfl rfl (by decide) (by decide) hk1 hFc hP1 hD1
  clear hPc hDc hKc hFc
  generalize H1 = H at hP hS ⊢
  have hP : va_P (dC, dI) vwCl [(x_slots, .inl (zk, 4, .inr (.inr (.inr (.inr (va_up (va_up (va_up (va_up (fun _ => none) 0 (some s0)) 1 (some s1)) 2 (some s2)) 3 (some s3))))))), (s2, .inr (5, [.ref y2, .int 0, .int 0, .int 0])), (h0, .inr (8, [.ref x_tape, .ref x_reader, .ref x_current, .ref x_images, .ref x_kept, .ref x_slots, .ref x_diary, .ref x_base, .ref x_trial, .ref x_plan, .ref x_orders, .ref x_unanswered, .int 0, .int 0, .int (-1)]))] H := hP
  have hD : va_D A [(x_slots, .inl (zk, 4, .inr (.inr (.inr (.inr (va_up (va_up (va_up (va_up (fun _ => none) 0 (some s0)) 1 (some s1)) 2 (some s2)) 3 (some s3))))))), (s2, .inr (5, [.ref y2, .int 0, .int 0, .int 0])), (h0, .inr (8, [.ref x_tape, .ref x_reader, .ref x_current, .ref x_images, .ref x_kept, .ref x_slots, .ref x_diary, .ref x_base, .ref x_trial, .ref x_plan, .ref x_orders, .ref x_unanswered, .int 0, .int 0, .int (-1)]))] := hD
  have hw : r_1 = 1 := hw
  subst hw
  refine lv_if_eq (tgt := 16) hx hb dX8_paste_5 (by decide) (fun c_2 => absurd c_2 (by decide)) (fun c_2 => ?_)
  refine lv_aload_n hx hb dX8_paste_8 rfl (lv_at hl 0 rfl) ?_
  refine lv_iload_n hx hb dX8_paste_9 rfl (lv_at hl 3 rfl) ?_
  have hPc := hP.sub (ws' := [(h0, .inr (8, [.ref x_tape, .ref x_reader, .ref x_current, .ref x_images, .ref x_kept, .ref x_slots, .ref x_diary, .ref x_base, .ref x_trial, .ref x_plan, .ref x_orders, .ref x_unanswered, .int 0, .int 0, .int (-1)]))]) [2] rfl
  have hDc := hD.sub (ws' := [(h0, .inr (8, [.ref x_tape, .ref x_reader, .ref x_current, .ref x_images, .ref x_kept, .ref x_slots, .ref x_diary, .ref x_base, .ref x_trial, .ref x_plan, .ref x_orders, .ref x_unanswered, .int 0, .int 0, .int (-1)]))]) [2] (by decide) rfl
  have hKc := hK.sub (tys' := []) [] rfl
  have hFc := va_free (wc := [(h0, .inr (8, [.ref x_tape, .ref x_reader, .ref x_current, .ref x_images, .ref x_kept, .ref x_slots, .ref x_diary, .ref x_base, .ref x_trial, .ref x_plan, .ref x_orders, .ref x_unanswered, .int 0, .int 0, .int (-1)]))]) hD hS hA [2] rfl
  refine va_calli (va_runV (As := [.int 2]) (rest := []) ⟨hx, hb, hml, hown, hts⟩ (c_isSlot2 l dC dI H.size h0 x_tape x_reader x_current x_images x_kept x_slots x_diary x_base x_trial x_plan x_orders x_unanswered ) (cwV 1 hts (goodV w_1288 w_1289 w_1290 w_2 w_1291) rfl rfl rfl hdV_X8_isSlot ⟨Nat.le_of_ble_eq_true rfl, Nat.le_of_ble_eq_true rfl⟩) ⟨fun a U g mk q => by obtain ⟨q0, q1, qP, qK, qD⟩ := q; exact ⟨q0, q1, qP, va_K.moved (u := U) (U := U.calling g mk a) (Vm.Alike.refl U.vm) qK, qD⟩, va_recv hKc hPc (ci := 8) (q0 := 0) rfl rfl, fun U hU hW => ⟨rfl, by rw [hU], by rw [hU]; exact hPc, va_K.moved hW.alike hKc, hDc.weaken (fun _ _ _ _ => trivial)⟩⟩ rfl rfl hl.1 rfl (lv_room (Nat.le_of_ble_eq_true rfl)) dX8_paste_10 ⟨Nat.le_of_ble_eq_true rfl, Nat.le_of_ble_eq_true rfl⟩) hS (fun q _ h => hFc q h) hFc (fun r_3 u t H1 locs ht hvm hw hB hz1 hk1 hS => ?_)
  obtain ⟨hP1, hK1, hD1⟩ := hB
  rw [ht] at hP1
  have hK1 := va_K.moved hvm.symm hK1
  obtain ⟨hP, hD⟩ := va_join (wr := [(x_slots, .inl (zk, 4, .inr (.inr (.inr (.inr (va_up (va_up (va_up (va_up (fun _ => none) 0 (some s0)) 1 (some s1)) 2 (some s2)) 3 (some s3))))))), (s2, .inr (5, [.ref y2, .int 0, .int 0, .int 0]))]) (w1 := [(h0, .inr (8, [.ref x_tape, .ref x_reader, .ref x_current, .ref x_images, .ref x_kept, .ref x_slots, .ref x_diary, .ref x_base, .ref x_trial, .ref x_plan, .ref x_orders, .ref x_unanswered, .int 0, .int 0, .int (-1)]))]) hP hD [2] [0, 1] rfl rfl (by decide) (by decide) hk1 hFc hP1 hD1
  clear hPc hDc hKc hFc
  generalize H1 = H at hP hS ⊢
  have hP : va_P (dC, dI) vwCl [(x_slots, .inl (zk, 4, .inr (.inr (.inr (.inr (va_up (va_up (va_up (va_up (fun _ => none) 0 (some s0)) 1 (some s1)) 2 (some s2)) 3 (some s3))))))), (s2, .inr (5, [.ref y2, .int 0, .int 0, .int 0])), (h0, .inr (8, [.ref x_tape, .ref x_reader, .ref x_current, .ref x_images, .ref x_kept, .ref x_slots, .ref x_diary, .ref x_base, .ref x_trial, .ref x_plan, .ref x_orders, .ref x_unanswered, .int 0, .int 0, .int (-1)]))] H := hP
  have hD : va_D A [(x_slots, .inl (zk, 4, .inr (.inr (.inr (.inr (va_up (va_up (va_up (va_up (fun _ => none) 0 (some s0)) 1 (some s1)) 2 (some s2)) 3 (some s3))))))), (s2, .inr (5, [.ref y2, .int 0, .int 0, .int 0])), (h0, .inr (8, [.ref x_tape, .ref x_reader, .ref x_current, .ref x_images, .ref x_kept, .ref x_slots, .ref x_diary, .ref x_base, .ref x_trial, .ref x_plan, .ref x_orders, .ref x_unanswered, .int 0, .int 0, .int (-1)]))] := hD
  have hw : r_3 = 1 := hw
  subst hw
  refine lv_if_ne (tgt := 19) hx hb dX8_paste_13 (by decide) (fun c_4 => ?_) (fun c_4 => absurd c_4 (by decide))
  refine lv_aload_n hx hb dX8_paste_19 rfl (lv_at hl 0 rfl) ?_
  refine va_get (D := (dC, dI)) (ci := 8) (v := .ref x_slots) (C := RX8) (T := TX8) (N := 15) hx hb hts inA8 hown hK hP 2 rfl rfl 5 (by decide) (hts _ w_29) (fun _ h9 => h9) rfl dX8_paste_20 ?_
  refine lv_iload_n hx hb dX8_paste_23 rfl (lv_at hl 1 rfl) ?_
  refine va_aldq hx hb hK hP 0 0 rfl rfl (show vp_in 2 4 from (by unfold vp_in; decide)) dX8_paste_24 ?_
  refine W.eq (g2 := F0 m 25 ls [.ref s2]) rfl ?_
  refine lv_astore (lv' := [(6, .ref s2), (0, .ref h0), (1, .int 2), (2, .int b), (3, .int 2), (4, .int a), (5, .int g_)]) hx hb dX8_paste_25 hl (by decide) rfl (fun ls hl => ?_)
  refine lv_aload_n hx hb dX8_paste_27 rfl (lv_at hl 1 rfl) ?_
  refine va_get (D := (dC, dI)) (ci := 8) (v := .ref x_slots) (C := RX8) (T := TX8) (N := 15) hx hb hts inA8 hown hK hP 2 rfl rfl 5 (by decide) (hts _ w_29) (fun _ h9 => h9) rfl dX8_paste_28 ?_
  refine lv_iload_n hx hb dX8_paste_31 rfl (lv_at hl 4 rfl) ?_
  refine va_aldq hx hb hK hP 0 0 rfl rfl (show vp_in 2 4 from (by unfold vp_in; decide)) dX8_paste_32 ?_
  refine W.eq (g2 := F0 m 33 ls [.ref s2]) rfl ?_
  refine lv_astore (lv' := [(7, .ref s2), (6, .ref s2), (0, .ref h0), (1, .int 2), (2, .int b), (3, .int 2), (4, .int a), (5, .int g_)]) hx hb dX8_paste_33 hl (by decide) rfl (fun ls hl => ?_)
  refine lv_aload hx hb dX8_paste_35 (lv_at hl 1 rfl) ?_
  refine va_get (D := (dC, dI)) (ci := 5) (v := .int 0) (C := RX5) (T := TX5) (N := 4) hx hb hts inA5 hown hK hP 1 rfl rfl 1 (by decide) (hts _ w_1283) (fun _ h9 => h9) rfl dX8_paste_37 ?_
  refine lv_if_eq (tgt := 51) hx hb dX8_paste_40 (by decide) (fun c_5 => ?_) (fun c_5 => absurd (by decide) c_5)
  refine lv_bipush (v := (-6)) hx hb dX8_paste_51 (by decide) ?_
  exact W.iret (v := (-6)) hx hb hr (fun t ht hW => ⟨⟨(-6), (), rfl, rfl, trivial⟩, hS.F ht⟩) hS.2.2 dX8_paste_53
set_option maxHeartbeats 4000000 in
set_option maxRecDepth 100000 in
theorem x_paste23 (l : Launch) (dC : Nat → ClassId) (dI : Nat → Nat → Nat) (sz : Nat) (h0 : Nat) (x_tape : Nat) (x_reader : Nat) (x_current : Nat) (x_images : Nat) (x_kept : Nat) (x_slots : Nat) (x_diary : Nat) (x_base : Nat) (x_trial : Nat) (x_plan : Nat) (x_orders : Nat) (x_unanswered : Nat) (s0 : Nat) (s1 : Nat) (s2 : Nat) (s3 : Nat) (y0 : Nat) (y1 : Nat) (y2 : Nat) (y3 : Nat) (zk : ClassId) (b : Int32) (a : Int32) (g_ : Int32)  : Met l yX8_paste (.code yX8_paste cX8_paste 8 (some .int) :: ALLW) ({ frames := 1, cells := 0, slots := 0, locals := 21 }) (va_Pc [.ref h0, .int 2, .int b, .int 3, .int a, .int g_] (fun U => U.heap.size = sz ∧ va_P (dC, dI) vwCl [(h0, .inr (8, [.ref x_tape, .ref x_reader, .ref x_current, .ref x_images, .ref x_kept, .ref x_slots, .ref x_diary, .ref x_base, .ref x_trial, .ref x_plan, .ref x_orders, .ref x_unanswered, .int 0, .int 0, .int (-1)])), (x_slots, .inl (zk, 4, .inr (.inr (.inr (.inr (va_up (va_up (va_up (va_up (fun _ => none) 0 (some s0)) 1 (some s1)) 2 (some s2)) 3 (some s3))))))), (s2, .inr (5, [.ref y2, .int 0, .int 0, .int 0])), (s3, .inr (5, [.ref y3, .int 0, .int 0, .int 0]))] U.heap ∧ va_K (dC, dI) vwCl [(zk, .object RX5)] U ∧ va_D (fun _ => True) [(h0, .inr (8, [.ref x_tape, .ref x_reader, .ref x_current, .ref x_images, .ref x_kept, .ref x_slots, .ref x_diary, .ref x_base, .ref x_trial, .ref x_plan, .ref x_orders, .ref x_unanswered, .int 0, .int 0, .int (-1)])), (x_slots, .inl (zk, 4, .inr (.inr (.inr (.inr (va_up (va_up (va_up (va_up (fun _ => none) 0 (some s0)) 1 (some s1)) 2 (some s2)) 3 (some s3))))))), (s2, .inr (5, [.ref y2, .int 0, .int 0, .int 0])), (s3, .inr (5, [.ref y3, .int 0, .int 0, .int 0]))])) (va_Qi (fun (r : Int32) (_ : Unit) => r = (-6)) (fun (_ : Unit) (_ : State) => True) (va_A [(h0, .inr (8, [.ref x_tape, .ref x_reader, .ref x_current, .ref x_images, .ref x_kept, .ref x_slots, .ref x_diary, .ref x_base, .ref x_trial, .ref x_plan, .ref x_orders, .ref x_unanswered, .int 0, .int 0, .int (-1)])), (x_slots, .inl (zk, 4, .inr (.inr (.inr (.inr (va_up (va_up (va_up (va_up (fun _ => none) 0 (some s0)) 1 (some s1)) 2 (some s2)) 3 (some s3))))))), (s2, .inr (5, [.ref y2, .int 0, .int 0, .int 0])), (s3, .inr (5, [.ref y3, .int 0, .int 0, .int 0]))] sz)) 0 0 (va_A [(h0, .inr (8, [.ref x_tape, .ref x_reader, .ref x_current, .ref x_images, .ref x_kept, .ref x_slots, .ref x_diary, .ref x_base, .ref x_trial, .ref x_plan, .ref x_orders, .ref x_unanswered, .int 0, .int 0, .int (-1)])), (x_slots, .inl (zk, 4, .inr (.inr (.inr (.inr (va_up (va_up (va_up (va_up (fun _ => none) 0 (some s0)) 1 (some s1)) 2 (some s2)) 3 (some s3))))))), (s2, .inr (5, [.ref y2, .int 0, .int 0, .int 0])), (s3, .inr (5, [.ref y3, .int 0, .int 0, .int 0]))] sz) := by
  refine Met.ofW (cc := cX8_paste) (maxL := 8) (ret := (some .int)) (by decide) rfl ?_
  intro p e s m args below meth c s₁ B hml hv
  obtain ⟨rfl, hsz, hP, hK, hD0⟩ := hv
  have hx := B.exec
  have hb := B.bytes
  have hr := B.returns
  have hts0 := atoms_spec (ws := (.code yX8_paste cX8_paste 8 (some .int) :: ALLW)) B.pre
  have hts := fun (w : Cond) (h : w ∈ ALLW) => hts0 w (List.mem_cons_of_mem _ h)
  have hown : s.vm.findClass RX8 = some m.cls := findClass_of_methodNamed B.named
  have hlocks := B.notSynchronized
  subst hsz
  have hD := hD0.self (sz := s.heap.size)
  generalize hAe : va_A [(h0, .inr (8, [.ref x_tape, .ref x_reader, .ref x_current, .ref x_images, .ref x_kept, .ref x_slots, .ref x_diary, .ref x_base, .ref x_trial, .ref x_plan, .ref x_orders, .ref x_unanswered, .int 0, .int 0, .int (-1)])), (x_slots, .inl (zk, 4, .inr (.inr (.inr (.inr (va_up (va_up (va_up (va_up (fun _ => none) 0 (some s0)) 1 (some s1)) 2 (some s2)) 3 (some s3))))))), (s2, .inr (5, [.ref y2, .int 0, .int 0, .int 0])), (s3, .inr (5, [.ref y3, .int 0, .int 0, .int 0]))] s.heap.size = A at hD ⊢
  have hA : ∀ q : Nat, s.heap.size ≤ q → A q := fun q h => by rw [← hAe]; exact Or.inr h
  have hS : va_S A s.heap s.heap [] := va_S.rf
  have hP : va_P (dC, dI) vwCl [(h0, .inr (8, [.ref x_tape, .ref x_reader, .ref x_current, .ref x_images, .ref x_kept, .ref x_slots, .ref x_diary, .ref x_base, .ref x_trial, .ref x_plan, .ref x_orders, .ref x_unanswered, .int 0, .int 0, .int (-1)])), (x_slots, .inl (zk, 4, .inr (.inr (.inr (.inr (va_up (va_up (va_up (va_up (fun _ => none) 0 (some s0)) 1 (some s1)) 2 (some s2)) 3 (some s3))))))), (s2, .inr (5, [.ref y2, .int 0, .int 0, .int 0])), (s3, .inr (5, [.ref y3, .int 0, .int 0, .int 0]))] s.heap := hP
  have hl := lv_entry ([.ref h0, .int 2, .int b, .int 3, .int a, .int g_]) (n := 8) (Nat.le_of_ble_eq_true rfl)
  rw [lg_entry_eq]
  generalize (lg_sl ([.ref h0, .int 2, .int b, .int 3, .int a, .int g_]) ++ List.replicate (8 - (lg_sl ([.ref h0, .int 2, .int b, .int 3, .int a, .int g_])).length) Slot.unset).toArray = ls at hl ⊢
  have hl : lv_has ls 8 [(0, .ref h0), (1, .int 2), (2, .int b), (3, .int 3), (4, .int a), (5, .int g_)] := hl
  refine lv_aload_n hx hb dX8_paste_0 rfl (lv_at hl 0 rfl) ?_
  refine lv_iload_n hx hb dX8_paste_1 rfl (lv_at hl 1 rfl) ?_
  have hPc := hP.sub (ws' := [(h0, .inr (8, [.ref x_tape, .ref x_reader, .ref x_current, .ref x_images, .ref x_kept, .ref x_slots, .ref x_diary, .ref x_base, .ref x_trial, .ref x_plan, .ref x_orders, .ref x_unanswered, .int 0, .int 0, .int (-1)]))]) [0] rfl
  have hDc := hD.sub (ws' := [(h0, .inr (8, [.ref x_tape, .ref x_reader, .ref x_current, .ref x_images, .ref x_kept, .ref x_slots, .ref x_diary, .ref x_base, .ref x_trial, .ref x_plan, .ref x_orders, .ref x_unanswered, .int 0, .int 0, .int (-1)]))]) [0] (by decide) rfl
  have hKc := hK.sub (tys' := []) [] rfl
  have hFc := va_free (wc := [(h0, .inr (8, [.ref x_tape, .ref x_reader, .ref x_current, .ref x_images, .ref x_kept, .ref x_slots, .ref x_diary, .ref x_base, .ref x_trial, .ref x_plan, .ref x_orders, .ref x_unanswered, .int 0, .int 0, .int (-1)]))]) hD hS hA [0] rfl
  refine va_calli (va_runV (As := [.int 2]) (rest := []) ⟨hx, hb, hml, hown, hts⟩ (c_isSlot2 l dC dI s.heap.size h0 x_tape x_reader x_current x_images x_kept x_slots x_diary x_base x_trial x_plan x_orders x_unanswered ) (cwV 1 hts (goodV w_1288 w_1289 w_1290 w_2 w_1291) rfl rfl rfl hdV_X8_isSlot ⟨Nat.le_of_ble_eq_true rfl, Nat.le_of_ble_eq_true rfl⟩) ⟨fun a U g mk q => by obtain ⟨q0, q1, qP, qK, qD⟩ := q; exact ⟨q0, q1, qP, va_K.moved (u := U) (U := U.calling g mk a) (Vm.Alike.refl U.vm) qK, qD⟩, va_recv hKc hPc (ci := 8) (q0 := 0) rfl rfl, fun U hU hW => ⟨rfl, by rw [hU], by rw [hU]; exact hPc, va_K.moved hW.alike hKc, hDc.weaken (fun _ _ _ _ => trivial)⟩⟩ rfl rfl hl.1 rfl (lv_room (Nat.le_of_ble_eq_true rfl)) dX8_paste_2 ⟨Nat.le_of_ble_eq_true rfl, Nat.le_of_ble_eq_true rfl⟩) hS (fun q _ h => hFc q h) hFc (fun r_1 u t H1 locs ht hvm hw hB hz1 hk1 hS => ?_)
  obtain ⟨hP1, hK1, hD1⟩ := hB
  rw [ht] at hP1
  have hK1 := va_K.moved hvm.symm hK1
  obtain ⟨hP, hD⟩ := va_join (wr := [(x_slots, .inl (zk, 4, .inr (.inr (.inr (.inr (va_up (va_up (va_up (va_up (fun _ => none) 0 (some s0)) 1 (some s1)) 2 (some s2)) 3 (some s3))))))), (s2, .inr (5, [.ref y2, .int 0, .int 0, .int 0])), (s3, .inr (5, [.ref y3, .int 0, .int 0, .int 0]))]) (w1 := [(h0, .inr (8, [.ref x_tape, .ref x_reader, .ref x_current, .ref x_images, .ref x_kept, .ref x_slots, .ref x_diary, .ref x_base, .ref x_trial, .ref x_plan, .ref x_orders, .ref x_unanswered, .int 0, .int 0, .int (-1)]))]) hP hD [0] [1, 2, 3] rfl rfl (by decide) (by decide) hk1 hFc hP1 hD1
  clear hPc hDc hKc hFc
  generalize H1 = H at hP hS ⊢
  have hP : va_P (dC, dI) vwCl [(x_slots, .inl (zk, 4, .inr (.inr (.inr (.inr (va_up (va_up (va_up (va_up (fun _ => none) 0 (some s0)) 1 (some s1)) 2 (some s2)) 3 (some s3))))))), (s2, .inr (5, [.ref y2, .int 0, .int 0, .int 0])), (s3, .inr (5, [.ref y3, .int 0, .int 0, .int 0])), (h0, .inr (8, [.ref x_tape, .ref x_reader, .ref x_current, .ref x_images, .ref x_kept, .ref x_slots, .ref x_diary, .ref x_base, .ref x_trial, .ref x_plan, .ref x_orders, .ref x_unanswered, .int 0, .int 0, .int (-1)]))] H := hP
  have hD : va_D A [(x_slots, .inl (zk, 4, .inr (.inr (.inr (.inr (va_up (va_up (va_up (va_up (fun _ => none) 0 (some s0)) 1 (some s1)) 2 (some s2)) 3 (some s3))))))), (s2, .inr (5, [.ref y2, .int 0, .int 0, .int 0])), (s3, .inr (5, [.ref y3, .int 0, .int 0, .int 0])), (h0, .inr (8, [.ref x_tape, .ref x_reader, .ref x_current, .ref x_images, .ref x_kept, .ref x_slots, .ref x_diary, .ref x_base, .ref x_trial, .ref x_plan, .ref x_orders, .ref x_unanswered, .int 0, .int 0, .int (-1)]))] := hD
  have hw : r_1 = 1 := hw
  subst hw
  refine lv_if_eq (tgt := 16) hx hb dX8_paste_5 (by decide) (fun c_2 => absurd c_2 (by decide)) (fun c_2 => ?_)
  refine lv_aload_n hx hb dX8_paste_8 rfl (lv_at hl 0 rfl) ?_
  refine lv_iload_n hx hb dX8_paste_9 rfl (lv_at hl 3 rfl) ?_
  have hPc := hP.sub (ws' := [(h0, .inr (8, [.ref x_tape, .ref x_reader, .ref x_current, .ref x_images, .ref x_kept, .ref x_slots, .ref x_diary, .ref x_base, .ref x_trial, .ref x_plan, .ref x_orders, .ref x_unanswered, .int 0, .int 0, .int (-1)]))]) [3] rfl
  have hDc := hD.sub (ws' := [(h0, .inr (8, [.ref x_tape, .ref x_reader, .ref x_current, .ref x_images, .ref x_kept, .ref x_slots, .ref x_diary, .ref x_base, .ref x_trial, .ref x_plan, .ref x_orders, .ref x_unanswered, .int 0, .int 0, .int (-1)]))]) [3] (by decide) rfl
  have hKc := hK.sub (tys' := []) [] rfl
  have hFc := va_free (wc := [(h0, .inr (8, [.ref x_tape, .ref x_reader, .ref x_current, .ref x_images, .ref x_kept, .ref x_slots, .ref x_diary, .ref x_base, .ref x_trial, .ref x_plan, .ref x_orders, .ref x_unanswered, .int 0, .int 0, .int (-1)]))]) hD hS hA [3] rfl
  refine va_calli (va_runV (As := [.int 3]) (rest := []) ⟨hx, hb, hml, hown, hts⟩ (c_isSlot3 l dC dI H.size h0 x_tape x_reader x_current x_images x_kept x_slots x_diary x_base x_trial x_plan x_orders x_unanswered ) (cwV 1 hts (goodV w_1288 w_1289 w_1290 w_2 w_1291) rfl rfl rfl hdV_X8_isSlot ⟨Nat.le_of_ble_eq_true rfl, Nat.le_of_ble_eq_true rfl⟩) ⟨fun a U g mk q => by obtain ⟨q0, q1, qP, qK, qD⟩ := q; exact ⟨q0, q1, qP, va_K.moved (u := U) (U := U.calling g mk a) (Vm.Alike.refl U.vm) qK, qD⟩, va_recv hKc hPc (ci := 8) (q0 := 0) rfl rfl, fun U hU hW => ⟨rfl, by rw [hU], by rw [hU]; exact hPc, va_K.moved hW.alike hKc, hDc.weaken (fun _ _ _ _ => trivial)⟩⟩ rfl rfl hl.1 rfl (lv_room (Nat.le_of_ble_eq_true rfl)) dX8_paste_10 ⟨Nat.le_of_ble_eq_true rfl, Nat.le_of_ble_eq_true rfl⟩) hS (fun q _ h => hFc q h) hFc (fun r_3 u t H1 locs ht hvm hw hB hz1 hk1 hS => ?_)
  obtain ⟨hP1, hK1, hD1⟩ := hB
  rw [ht] at hP1
  have hK1 := va_K.moved hvm.symm hK1
  obtain ⟨hP, hD⟩ := va_join (wr := [(x_slots, .inl (zk, 4, .inr (.inr (.inr (.inr (va_up (va_up (va_up (va_up (fun _ => none) 0 (some s0)) 1 (some s1)) 2 (some s2)) 3 (some s3))))))), (s2, .inr (5, [.ref y2, .int 0, .int 0, .int 0])), (s3, .inr (5, [.ref y3, .int 0, .int 0, .int 0]))]) (w1 := [(h0, .inr (8, [.ref x_tape, .ref x_reader, .ref x_current, .ref x_images, .ref x_kept, .ref x_slots, .ref x_diary, .ref x_base, .ref x_trial, .ref x_plan, .ref x_orders, .ref x_unanswered, .int 0, .int 0, .int (-1)]))]) hP hD [3] [0, 1, 2] rfl rfl (by decide) (by decide) hk1 hFc hP1 hD1
  clear hPc hDc hKc hFc
  generalize H1 = H at hP hS ⊢
  have hP : va_P (dC, dI) vwCl [(x_slots, .inl (zk, 4, .inr (.inr (.inr (.inr (va_up (va_up (va_up (va_up (fun _ => none) 0 (some s0)) 1 (some s1)) 2 (some s2)) 3 (some s3))))))), (s2, .inr (5, [.ref y2, .int 0, .int 0, .int 0])), (s3, .inr (5, [.ref y3, .int 0, .int 0, .int 0])), (h0, .inr (8, [.ref x_tape, .ref x_reader, .ref x_current, .ref x_images, .ref x_kept, .ref x_slots, .ref x_diary, .ref x_base, .ref x_trial, .ref x_plan, .ref x_orders, .ref x_unanswered, .int 0, .int 0, .int (-1)]))] H := hP
  have hD : va_D A [(x_slots, .inl (zk, 4, .inr (.inr (.inr (.inr (va_up (va_up (va_up (va_up (fun _ => none) 0 (some s0)) 1 (some s1)) 2 (some s2)) 3 (some s3))))))), (s2, .inr (5, [.ref y2, .int 0, .int 0, .int 0])), (s3, .inr (5, [.ref y3, .int 0, .int 0, .int 0])), (h0, .inr (8, [.ref x_tape, .ref x_reader, .ref x_current, .ref x_images, .ref x_kept, .ref x_slots, .ref x_diary, .ref x_base, .ref x_trial, .ref x_plan, .ref x_orders, .ref x_unanswered, .int 0, .int 0, .int (-1)]))] := hD
  have hw : r_3 = 1 := hw
  subst hw
  refine lv_if_ne (tgt := 19) hx hb dX8_paste_13 (by decide) (fun c_4 => ?_) (fun c_4 => absurd c_4 (by decide))
  refine lv_aload_n hx hb dX8_paste_19 rfl (lv_at hl 0 rfl) ?_
  refine va_get (D := (dC, dI)) (ci := 8) (v := .ref x_slots) (C := RX8) (T := TX8) (N := 15) hx hb hts inA8 hown hK hP 3 rfl rfl 5 (by decide) (hts _ w_29) (fun _ h9 => h9) rfl dX8_paste_20 ?_
  refine lv_iload_n hx hb dX8_paste_23 rfl (lv_at hl 1 rfl) ?_
  refine va_aldq hx hb hK hP 0 0 rfl rfl (show vp_in 2 4 from (by unfold vp_in; decide)) dX8_paste_24 ?_
  refine W.eq (g2 := F0 m 25 ls [.ref s2]) rfl ?_
  refine lv_astore (lv' := [(6, .ref s2), (0, .ref h0), (1, .int 2), (2, .int b), (3, .int 3), (4, .int a), (5, .int g_)]) hx hb dX8_paste_25 hl (by decide) rfl (fun ls hl => ?_)
  refine lv_aload_n hx hb dX8_paste_27 rfl (lv_at hl 1 rfl) ?_
  refine va_get (D := (dC, dI)) (ci := 8) (v := .ref x_slots) (C := RX8) (T := TX8) (N := 15) hx hb hts inA8 hown hK hP 3 rfl rfl 5 (by decide) (hts _ w_29) (fun _ h9 => h9) rfl dX8_paste_28 ?_
  refine lv_iload_n hx hb dX8_paste_31 rfl (lv_at hl 4 rfl) ?_
  refine va_aldq hx hb hK hP 0 0 rfl rfl (show vp_in 3 4 from (by unfold vp_in; decide)) dX8_paste_32 ?_
  refine W.eq (g2 := F0 m 33 ls [.ref s3]) rfl ?_
  refine lv_astore (lv' := [(7, .ref s3), (6, .ref s2), (0, .ref h0), (1, .int 2), (2, .int b), (3, .int 3), (4, .int a), (5, .int g_)]) hx hb dX8_paste_33 hl (by decide) rfl (fun ls hl => ?_)
  refine lv_aload hx hb dX8_paste_35 (lv_at hl 1 rfl) ?_
  refine va_get (D := (dC, dI)) (ci := 5) (v := .int 0) (C := RX5) (T := TX5) (N := 4) hx hb hts inA5 hown hK hP 1 rfl rfl 1 (by decide) (hts _ w_1283) (fun _ h9 => h9) rfl dX8_paste_37 ?_
  refine lv_if_eq (tgt := 51) hx hb dX8_paste_40 (by decide) (fun c_5 => ?_) (fun c_5 => absurd (by decide) c_5)
  refine lv_bipush (v := (-6)) hx hb dX8_paste_51 (by decide) ?_
  exact W.iret (v := (-6)) hx hb hr (fun t ht hW => ⟨⟨(-6), (), rfl, rfl, trivial⟩, hS.F ht⟩) hS.2.2 dX8_paste_53
set_option maxHeartbeats 4000000 in
set_option maxRecDepth 100000 in
theorem x_pasteO3 (l : Launch) (dC : Nat → ClassId) (dI : Nat → Nat → Nat) (sz : Nat) (h0 : Nat) (x_tape : Nat) (x_reader : Nat) (x_current : Nat) (x_images : Nat) (x_kept : Nat) (x_slots : Nat) (x_diary : Nat) (x_base : Nat) (x_trial : Nat) (x_plan : Nat) (x_orders : Nat) (x_unanswered : Nat) (b : Int32) (a : Int32) (g_ : Int32) (w_ : Int32) (h1 : a.toInt < 0 ∨ 4 ≤ a.toInt) : Met l yX8_paste (.code yX8_paste cX8_paste 8 (some .int) :: ALLW) ({ frames := 1, cells := 0, slots := 0, locals := 21 }) (va_Pc [.ref h0, .int 3, .int b, .int a, .int g_, .int w_] (fun U => U.heap.size = sz ∧ va_P (dC, dI) vwCl [(h0, .inr (8, [.ref x_tape, .ref x_reader, .ref x_current, .ref x_images, .ref x_kept, .ref x_slots, .ref x_diary, .ref x_base, .ref x_trial, .ref x_plan, .ref x_orders, .ref x_unanswered, .int 0, .int 0, .int (-1)]))] U.heap ∧ va_K (dC, dI) vwCl [] U ∧ va_D (fun _ => True) [(h0, .inr (8, [.ref x_tape, .ref x_reader, .ref x_current, .ref x_images, .ref x_kept, .ref x_slots, .ref x_diary, .ref x_base, .ref x_trial, .ref x_plan, .ref x_orders, .ref x_unanswered, .int 0, .int 0, .int (-1)]))])) (va_Qi (fun (r : Int32) (_ : Unit) => r = (-2)) (fun (_ : Unit) (_ : State) => True) (va_A [(h0, .inr (8, [.ref x_tape, .ref x_reader, .ref x_current, .ref x_images, .ref x_kept, .ref x_slots, .ref x_diary, .ref x_base, .ref x_trial, .ref x_plan, .ref x_orders, .ref x_unanswered, .int 0, .int 0, .int (-1)]))] sz)) 0 0 (va_A [(h0, .inr (8, [.ref x_tape, .ref x_reader, .ref x_current, .ref x_images, .ref x_kept, .ref x_slots, .ref x_diary, .ref x_base, .ref x_trial, .ref x_plan, .ref x_orders, .ref x_unanswered, .int 0, .int 0, .int (-1)]))] sz) := by
  refine Met.ofW (cc := cX8_paste) (maxL := 8) (ret := (some .int)) (by decide) rfl ?_
  intro p e s m args below meth c s₁ B hml hv
  obtain ⟨rfl, hsz, hP, hK, hD0⟩ := hv
  have hx := B.exec
  have hb := B.bytes
  have hr := B.returns
  have hts0 := atoms_spec (ws := (.code yX8_paste cX8_paste 8 (some .int) :: ALLW)) B.pre
  have hts := fun (w : Cond) (h : w ∈ ALLW) => hts0 w (List.mem_cons_of_mem _ h)
  have hown : s.vm.findClass RX8 = some m.cls := findClass_of_methodNamed B.named
  have hlocks := B.notSynchronized
  subst hsz
  have hD := hD0.self (sz := s.heap.size)
  generalize hAe : va_A [(h0, .inr (8, [.ref x_tape, .ref x_reader, .ref x_current, .ref x_images, .ref x_kept, .ref x_slots, .ref x_diary, .ref x_base, .ref x_trial, .ref x_plan, .ref x_orders, .ref x_unanswered, .int 0, .int 0, .int (-1)]))] s.heap.size = A at hD ⊢
  have hA : ∀ q : Nat, s.heap.size ≤ q → A q := fun q h => by rw [← hAe]; exact Or.inr h
  have hS : va_S A s.heap s.heap [] := va_S.rf
  have hP : va_P (dC, dI) vwCl [(h0, .inr (8, [.ref x_tape, .ref x_reader, .ref x_current, .ref x_images, .ref x_kept, .ref x_slots, .ref x_diary, .ref x_base, .ref x_trial, .ref x_plan, .ref x_orders, .ref x_unanswered, .int 0, .int 0, .int (-1)]))] s.heap := hP
  have hl := lv_entry ([.ref h0, .int 3, .int b, .int a, .int g_, .int w_]) (n := 8) (Nat.le_of_ble_eq_true rfl)
  rw [lg_entry_eq]
  generalize (lg_sl ([.ref h0, .int 3, .int b, .int a, .int g_, .int w_]) ++ List.replicate (8 - (lg_sl ([.ref h0, .int 3, .int b, .int a, .int g_, .int w_])).length) Slot.unset).toArray = ls at hl ⊢
  have hl : lv_has ls 8 [(0, .ref h0), (1, .int 3), (2, .int b), (3, .int a), (4, .int g_), (5, .int w_)] := hl
  refine lv_aload_n hx hb dX8_paste_0 rfl (lv_at hl 0 rfl) ?_
  refine lv_iload_n hx hb dX8_paste_1 rfl (lv_at hl 1 rfl) ?_
  have hPc := hP.sub (ws' := [(h0, .inr (8, [.ref x_tape, .ref x_reader, .ref x_current, .ref x_images, .ref x_kept, .ref x_slots, .ref x_diary, .ref x_base, .ref x_trial, .ref x_plan, .ref x_orders, .ref x_unanswered, .int 0, .int 0, .int (-1)]))]) [0] rfl
  have hDc := hD.sub (ws' := [(h0, .inr (8, [.ref x_tape, .ref x_reader, .ref x_current, .ref x_images, .ref x_kept, .ref x_slots, .ref x_diary, .ref x_base, .ref x_trial, .ref x_plan, .ref x_orders, .ref x_unanswered, .int 0, .int 0, .int (-1)]))]) [0] (by decide) rfl
  have hKc := hK.sub (tys' := []) [] rfl
  have hFc := va_free (wc := [(h0, .inr (8, [.ref x_tape, .ref x_reader, .ref x_current, .ref x_images, .ref x_kept, .ref x_slots, .ref x_diary, .ref x_base, .ref x_trial, .ref x_plan, .ref x_orders, .ref x_unanswered, .int 0, .int 0, .int (-1)]))]) hD hS hA [0] rfl
  refine va_calli (va_runV (As := [.int 3]) (rest := []) ⟨hx, hb, hml, hown, hts⟩ (c_isSlot3 l dC dI s.heap.size h0 x_tape x_reader x_current x_images x_kept x_slots x_diary x_base x_trial x_plan x_orders x_unanswered ) (cwV 1 hts (goodV w_1288 w_1289 w_1290 w_2 w_1291) rfl rfl rfl hdV_X8_isSlot ⟨Nat.le_of_ble_eq_true rfl, Nat.le_of_ble_eq_true rfl⟩) ⟨fun a U g mk q => by obtain ⟨q0, q1, qP, qK, qD⟩ := q; exact ⟨q0, q1, qP, va_K.moved (u := U) (U := U.calling g mk a) (Vm.Alike.refl U.vm) qK, qD⟩, va_recv hKc hPc (ci := 8) (q0 := 0) rfl rfl, fun U hU hW => ⟨rfl, by rw [hU], by rw [hU]; exact hPc, va_K.moved hW.alike hKc, hDc.weaken (fun _ _ _ _ => trivial)⟩⟩ rfl rfl hl.1 rfl (lv_room (Nat.le_of_ble_eq_true rfl)) dX8_paste_2 ⟨Nat.le_of_ble_eq_true rfl, Nat.le_of_ble_eq_true rfl⟩) hS (fun q _ h => hFc q h) hFc (fun r_1 u t H1 locs ht hvm hw hB hz1 hk1 hS => ?_)
  obtain ⟨hP1, hK1, hD1⟩ := hB
  rw [ht] at hP1
  have hK1 := va_K.moved hvm.symm hK1
  obtain ⟨hP, hD⟩ := va_join (wr := []) (w1 := [(h0, .inr (8, [.ref x_tape, .ref x_reader, .ref x_current, .ref x_images, .ref x_kept, .ref x_slots, .ref x_diary, .ref x_base, .ref x_trial, .ref x_plan, .ref x_orders, .ref x_unanswered, .int 0, .int 0, .int (-1)]))]) hP hD [0] [] rfl rfl (by decide) (by decide) hk1 hFc hP1 hD1
  clear hPc hDc hKc hFc
  generalize H1 = H at hP hS ⊢
  have hP : va_P (dC, dI) vwCl [(h0, .inr (8, [.ref x_tape, .ref x_reader, .ref x_current, .ref x_images, .ref x_kept, .ref x_slots, .ref x_diary, .ref x_base, .ref x_trial, .ref x_plan, .ref x_orders, .ref x_unanswered, .int 0, .int 0, .int (-1)]))] H := hP
  have hD : va_D A [(h0, .inr (8, [.ref x_tape, .ref x_reader, .ref x_current, .ref x_images, .ref x_kept, .ref x_slots, .ref x_diary, .ref x_base, .ref x_trial, .ref x_plan, .ref x_orders, .ref x_unanswered, .int 0, .int 0, .int (-1)]))] := hD
  have hw : r_1 = 1 := hw
  subst hw
  refine lv_if_eq (tgt := 16) hx hb dX8_paste_5 (by decide) (fun c_2 => absurd c_2 (by decide)) (fun c_2 => ?_)
  refine lv_aload_n hx hb dX8_paste_8 rfl (lv_at hl 0 rfl) ?_
  refine lv_iload_n hx hb dX8_paste_9 rfl (lv_at hl 3 rfl) ?_
  have hPc := hP.sub (ws' := [(h0, .inr (8, [.ref x_tape, .ref x_reader, .ref x_current, .ref x_images, .ref x_kept, .ref x_slots, .ref x_diary, .ref x_base, .ref x_trial, .ref x_plan, .ref x_orders, .ref x_unanswered, .int 0, .int 0, .int (-1)]))]) [0] rfl
  have hDc := hD.sub (ws' := [(h0, .inr (8, [.ref x_tape, .ref x_reader, .ref x_current, .ref x_images, .ref x_kept, .ref x_slots, .ref x_diary, .ref x_base, .ref x_trial, .ref x_plan, .ref x_orders, .ref x_unanswered, .int 0, .int 0, .int (-1)]))]) [0] (by decide) rfl
  have hKc := hK.sub (tys' := []) [] rfl
  have hFc := va_free (wc := [(h0, .inr (8, [.ref x_tape, .ref x_reader, .ref x_current, .ref x_images, .ref x_kept, .ref x_slots, .ref x_diary, .ref x_base, .ref x_trial, .ref x_plan, .ref x_orders, .ref x_unanswered, .int 0, .int 0, .int (-1)]))]) hD hS hA [0] rfl
  refine va_calli (va_runV (As := [.int a]) (rest := []) ⟨hx, hb, hml, hown, hts⟩ (c_isSlotO l dC dI H.size h0 x_tape x_reader x_current x_images x_kept x_slots x_diary x_base x_trial x_plan x_orders x_unanswered a h1) (cwV 1 hts (goodV w_1288 w_1289 w_1290 w_2 w_1291) rfl rfl rfl hdV_X8_isSlot ⟨Nat.le_of_ble_eq_true rfl, Nat.le_of_ble_eq_true rfl⟩) ⟨fun a U g mk q => by obtain ⟨q0, q1, qP, qK, qD⟩ := q; exact ⟨q0, q1, qP, va_K.moved (u := U) (U := U.calling g mk a) (Vm.Alike.refl U.vm) qK, qD⟩, va_recv hKc hPc (ci := 8) (q0 := 0) rfl rfl, fun U hU hW => ⟨rfl, by rw [hU], by rw [hU]; exact hPc, va_K.moved hW.alike hKc, hDc.weaken (fun _ _ _ _ => trivial)⟩⟩ rfl rfl hl.1 rfl (lv_room (Nat.le_of_ble_eq_true rfl)) dX8_paste_10 ⟨Nat.le_of_ble_eq_true rfl, Nat.le_of_ble_eq_true rfl⟩) hS (fun q _ h => hFc q h) hFc (fun r_3 u t H1 locs ht hvm hw hB hz1 hk1 hS => ?_)
  obtain ⟨hP1, hK1, hD1⟩ := hB
  rw [ht] at hP1
  have hK1 := va_K.moved hvm.symm hK1
  obtain ⟨hP, hD⟩ := va_join (wr := []) (w1 := [(h0, .inr (8, [.ref x_tape, .ref x_reader, .ref x_current, .ref x_images, .ref x_kept, .ref x_slots, .ref x_diary, .ref x_base, .ref x_trial, .ref x_plan, .ref x_orders, .ref x_unanswered, .int 0, .int 0, .int (-1)]))]) hP hD [0] [] rfl rfl (by decide) (by decide) hk1 hFc hP1 hD1
  clear hPc hDc hKc hFc
  generalize H1 = H at hP hS ⊢
  have hP : va_P (dC, dI) vwCl [(h0, .inr (8, [.ref x_tape, .ref x_reader, .ref x_current, .ref x_images, .ref x_kept, .ref x_slots, .ref x_diary, .ref x_base, .ref x_trial, .ref x_plan, .ref x_orders, .ref x_unanswered, .int 0, .int 0, .int (-1)]))] H := hP
  have hD : va_D A [(h0, .inr (8, [.ref x_tape, .ref x_reader, .ref x_current, .ref x_images, .ref x_kept, .ref x_slots, .ref x_diary, .ref x_base, .ref x_trial, .ref x_plan, .ref x_orders, .ref x_unanswered, .int 0, .int 0, .int (-1)]))] := hD
  have hw : r_3 = 0 := hw
  subst hw
  refine lv_if_ne (tgt := 19) hx hb dX8_paste_13 (by decide) (fun c_4 => absurd (by decide) c_4) (fun c_4 => ?_)
  refine lv_bipush (v := (-2)) hx hb dX8_paste_16 (by decide) ?_
  exact W.iret (v := (-2)) hx hb hr (fun t ht hW => ⟨⟨(-2), (), rfl, rfl, trivial⟩, hS.F ht⟩) hS.2.2 dX8_paste_18
set_option maxHeartbeats 4000000 in
set_option maxRecDepth 100000 in
theorem x_paste30 (l : Launch) (dC : Nat → ClassId) (dI : Nat → Nat → Nat) (sz : Nat) (h0 : Nat) (x_tape : Nat) (x_reader : Nat) (x_current : Nat) (x_images : Nat) (x_kept : Nat) (x_slots : Nat) (x_diary : Nat) (x_base : Nat) (x_trial : Nat) (x_plan : Nat) (x_orders : Nat) (x_unanswered : Nat) (s0 : Nat) (s1 : Nat) (s2 : Nat) (s3 : Nat) (y0 : Nat) (y1 : Nat) (y2 : Nat) (y3 : Nat) (zk : ClassId) (b : Int32) (a : Int32) (g_ : Int32)  : Met l yX8_paste (.code yX8_paste cX8_paste 8 (some .int) :: ALLW) ({ frames := 1, cells := 0, slots := 0, locals := 21 }) (va_Pc [.ref h0, .int 3, .int b, .int 0, .int a, .int g_] (fun U => U.heap.size = sz ∧ va_P (dC, dI) vwCl [(h0, .inr (8, [.ref x_tape, .ref x_reader, .ref x_current, .ref x_images, .ref x_kept, .ref x_slots, .ref x_diary, .ref x_base, .ref x_trial, .ref x_plan, .ref x_orders, .ref x_unanswered, .int 0, .int 0, .int (-1)])), (x_slots, .inl (zk, 4, .inr (.inr (.inr (.inr (va_up (va_up (va_up (va_up (fun _ => none) 0 (some s0)) 1 (some s1)) 2 (some s2)) 3 (some s3))))))), (s3, .inr (5, [.ref y3, .int 0, .int 0, .int 0])), (s0, .inr (5, [.ref y0, .int 0, .int 0, .int 0]))] U.heap ∧ va_K (dC, dI) vwCl [(zk, .object RX5)] U ∧ va_D (fun _ => True) [(h0, .inr (8, [.ref x_tape, .ref x_reader, .ref x_current, .ref x_images, .ref x_kept, .ref x_slots, .ref x_diary, .ref x_base, .ref x_trial, .ref x_plan, .ref x_orders, .ref x_unanswered, .int 0, .int 0, .int (-1)])), (x_slots, .inl (zk, 4, .inr (.inr (.inr (.inr (va_up (va_up (va_up (va_up (fun _ => none) 0 (some s0)) 1 (some s1)) 2 (some s2)) 3 (some s3))))))), (s3, .inr (5, [.ref y3, .int 0, .int 0, .int 0])), (s0, .inr (5, [.ref y0, .int 0, .int 0, .int 0]))])) (va_Qi (fun (r : Int32) (_ : Unit) => r = (-6)) (fun (_ : Unit) (_ : State) => True) (va_A [(h0, .inr (8, [.ref x_tape, .ref x_reader, .ref x_current, .ref x_images, .ref x_kept, .ref x_slots, .ref x_diary, .ref x_base, .ref x_trial, .ref x_plan, .ref x_orders, .ref x_unanswered, .int 0, .int 0, .int (-1)])), (x_slots, .inl (zk, 4, .inr (.inr (.inr (.inr (va_up (va_up (va_up (va_up (fun _ => none) 0 (some s0)) 1 (some s1)) 2 (some s2)) 3 (some s3))))))), (s3, .inr (5, [.ref y3, .int 0, .int 0, .int 0])), (s0, .inr (5, [.ref y0, .int 0, .int 0, .int 0]))] sz)) 0 0 (va_A [(h0, .inr (8, [.ref x_tape, .ref x_reader, .ref x_current, .ref x_images, .ref x_kept, .ref x_slots, .ref x_diary, .ref x_base, .ref x_trial, .ref x_plan, .ref x_orders, .ref x_unanswered, .int 0, .int 0, .int (-1)])), (x_slots, .inl (zk, 4, .inr (.inr (.inr (.inr (va_up (va_up (va_up (va_up (fun _ => none) 0 (some s0)) 1 (some s1)) 2 (some s2)) 3 (some s3))))))), (s3, .inr (5, [.ref y3, .int 0, .int 0, .int 0])), (s0, .inr (5, [.ref y0, .int 0, .int 0, .int 0]))] sz) := by
  refine Met.ofW (cc := cX8_paste) (maxL := 8) (ret := (some .int)) (by decide) rfl ?_
  intro p e s m args below meth c s₁ B hml hv
  obtain ⟨rfl, hsz, hP, hK, hD0⟩ := hv
  have hx := B.exec
  have hb := B.bytes
  have hr := B.returns
  have hts0 := atoms_spec (ws := (.code yX8_paste cX8_paste 8 (some .int) :: ALLW)) B.pre
  have hts := fun (w : Cond) (h : w ∈ ALLW) => hts0 w (List.mem_cons_of_mem _ h)
  have hown : s.vm.findClass RX8 = some m.cls := findClass_of_methodNamed B.named
  have hlocks := B.notSynchronized
  subst hsz
  have hD := hD0.self (sz := s.heap.size)
  generalize hAe : va_A [(h0, .inr (8, [.ref x_tape, .ref x_reader, .ref x_current, .ref x_images, .ref x_kept, .ref x_slots, .ref x_diary, .ref x_base, .ref x_trial, .ref x_plan, .ref x_orders, .ref x_unanswered, .int 0, .int 0, .int (-1)])), (x_slots, .inl (zk, 4, .inr (.inr (.inr (.inr (va_up (va_up (va_up (va_up (fun _ => none) 0 (some s0)) 1 (some s1)) 2 (some s2)) 3 (some s3))))))), (s3, .inr (5, [.ref y3, .int 0, .int 0, .int 0])), (s0, .inr (5, [.ref y0, .int 0, .int 0, .int 0]))] s.heap.size = A at hD ⊢
  have hA : ∀ q : Nat, s.heap.size ≤ q → A q := fun q h => by rw [← hAe]; exact Or.inr h
  have hS : va_S A s.heap s.heap [] := va_S.rf
  have hP : va_P (dC, dI) vwCl [(h0, .inr (8, [.ref x_tape, .ref x_reader, .ref x_current, .ref x_images, .ref x_kept, .ref x_slots, .ref x_diary, .ref x_base, .ref x_trial, .ref x_plan, .ref x_orders, .ref x_unanswered, .int 0, .int 0, .int (-1)])), (x_slots, .inl (zk, 4, .inr (.inr (.inr (.inr (va_up (va_up (va_up (va_up (fun _ => none) 0 (some s0)) 1 (some s1)) 2 (some s2)) 3 (some s3))))))), (s3, .inr (5, [.ref y3, .int 0, .int 0, .int 0])), (s0, .inr (5, [.ref y0, .int 0, .int 0, .int 0]))] s.heap := hP
  have hl := lv_entry ([.ref h0, .int 3, .int b, .int 0, .int a, .int g_]) (n := 8) (Nat.le_of_ble_eq_true rfl)
  rw [lg_entry_eq]
  generalize (lg_sl ([.ref h0, .int 3, .int b, .int 0, .int a, .int g_]) ++ List.replicate (8 - (lg_sl ([.ref h0, .int 3, .int b, .int 0, .int a, .int g_])).length) Slot.unset).toArray = ls at hl ⊢
  have hl : lv_has ls 8 [(0, .ref h0), (1, .int 3), (2, .int b), (3, .int 0), (4, .int a), (5, .int g_)] := hl
  refine lv_aload_n hx hb dX8_paste_0 rfl (lv_at hl 0 rfl) ?_
  refine lv_iload_n hx hb dX8_paste_1 rfl (lv_at hl 1 rfl) ?_
  have hPc := hP.sub (ws' := [(h0, .inr (8, [.ref x_tape, .ref x_reader, .ref x_current, .ref x_images, .ref x_kept, .ref x_slots, .ref x_diary, .ref x_base, .ref x_trial, .ref x_plan, .ref x_orders, .ref x_unanswered, .int 0, .int 0, .int (-1)]))]) [0] rfl
  have hDc := hD.sub (ws' := [(h0, .inr (8, [.ref x_tape, .ref x_reader, .ref x_current, .ref x_images, .ref x_kept, .ref x_slots, .ref x_diary, .ref x_base, .ref x_trial, .ref x_plan, .ref x_orders, .ref x_unanswered, .int 0, .int 0, .int (-1)]))]) [0] (by decide) rfl
  have hKc := hK.sub (tys' := []) [] rfl
  have hFc := va_free (wc := [(h0, .inr (8, [.ref x_tape, .ref x_reader, .ref x_current, .ref x_images, .ref x_kept, .ref x_slots, .ref x_diary, .ref x_base, .ref x_trial, .ref x_plan, .ref x_orders, .ref x_unanswered, .int 0, .int 0, .int (-1)]))]) hD hS hA [0] rfl
  refine va_calli (va_runV (As := [.int 3]) (rest := []) ⟨hx, hb, hml, hown, hts⟩ (c_isSlot3 l dC dI s.heap.size h0 x_tape x_reader x_current x_images x_kept x_slots x_diary x_base x_trial x_plan x_orders x_unanswered ) (cwV 1 hts (goodV w_1288 w_1289 w_1290 w_2 w_1291) rfl rfl rfl hdV_X8_isSlot ⟨Nat.le_of_ble_eq_true rfl, Nat.le_of_ble_eq_true rfl⟩) ⟨fun a U g mk q => by obtain ⟨q0, q1, qP, qK, qD⟩ := q; exact ⟨q0, q1, qP, va_K.moved (u := U) (U := U.calling g mk a) (Vm.Alike.refl U.vm) qK, qD⟩, va_recv hKc hPc (ci := 8) (q0 := 0) rfl rfl, fun U hU hW => ⟨rfl, by rw [hU], by rw [hU]; exact hPc, va_K.moved hW.alike hKc, hDc.weaken (fun _ _ _ _ => trivial)⟩⟩ rfl rfl hl.1 rfl (lv_room (Nat.le_of_ble_eq_true rfl)) dX8_paste_2 ⟨Nat.le_of_ble_eq_true rfl, Nat.le_of_ble_eq_true rfl⟩) hS (fun q _ h => hFc q h) hFc (fun r_1 u t H1 locs ht hvm hw hB hz1 hk1 hS => ?_)
  obtain ⟨hP1, hK1, hD1⟩ := hB
  rw [ht] at hP1
  have hK1 := va_K.moved hvm.symm hK1
  obtain ⟨hP, hD⟩ := va_join (wr := [(x_slots, .inl (zk, 4, .inr (.inr (.inr (.inr (va_up (va_up (va_up (va_up (fun _ => none) 0 (some s0)) 1 (some s1)) 2 (some s2)) 3 (some s3))))))), (s3, .inr (5, [.ref y3, .int 0, .int 0, .int 0])), (s0, .inr (5, [.ref y0, .int 0, .int 0, .int 0]))]) (w1 := [(h0, .inr (8, [.ref x_tape, .ref x_reader, .ref x_current, .ref x_images, .ref x_kept, .ref x_slots, .ref x_diary, .ref x_base, .ref x_trial, .ref x_plan, .ref x_orders, .ref x_unanswered, .int 0, .int 0, .int (-1)]))]) hP hD [0] [1, 2, 3] rfl rfl (by decide) (by decide) hk1 hFc hP1 hD1
  clear hPc hDc hKc hFc
  generalize H1 = H at hP hS ⊢
  have hP : va_P (dC, dI) vwCl [(x_slots, .inl (zk, 4, .inr (.inr (.inr (.inr (va_up (va_up (va_up (va_up (fun _ => none) 0 (some s0)) 1 (some s1)) 2 (some s2)) 3 (some s3))))))), (s3, .inr (5, [.ref y3, .int 0, .int 0, .int 0])), (s0, .inr (5, [.ref y0, .int 0, .int 0, .int 0])), (h0, .inr (8, [.ref x_tape, .ref x_reader, .ref x_current, .ref x_images, .ref x_kept, .ref x_slots, .ref x_diary, .ref x_base, .ref x_trial, .ref x_plan, .ref x_orders, .ref x_unanswered, .int 0, .int 0, .int (-1)]))] H := hP
  have hD : va_D A [(x_slots, .inl (zk, 4, .inr (.inr (.inr (.inr (va_up (va_up (va_up (va_up (fun _ => none) 0 (some s0)) 1 (some s1)) 2 (some s2)) 3 (some s3))))))), (s3, .inr (5, [.ref y3, .int 0, .int 0, .int 0])), (s0, .inr (5, [.ref y0, .int 0, .int 0, .int 0])), (h0, .inr (8, [.ref x_tape, .ref x_reader, .ref x_current, .ref x_images, .ref x_kept, .ref x_slots, .ref x_diary, .ref x_base, .ref x_trial, .ref x_plan, .ref x_orders, .ref x_unanswered, .int 0, .int 0, .int (-1)]))] := hD
  have hw : r_1 = 1 := hw
  subst hw
  refine lv_if_eq (tgt := 16) hx hb dX8_paste_5 (by decide) (fun c_2 => absurd c_2 (by decide)) (fun c_2 => ?_)
  refine lv_aload_n hx hb dX8_paste_8 rfl (lv_at hl 0 rfl) ?_
  refine lv_iload_n hx hb dX8_paste_9 rfl (lv_at hl 3 rfl) ?_
  have hPc := hP.sub (ws' := [(h0, .inr (8, [.ref x_tape, .ref x_reader, .ref x_current, .ref x_images, .ref x_kept, .ref x_slots, .ref x_diary, .ref x_base, .ref x_trial, .ref x_plan, .ref x_orders, .ref x_unanswered, .int 0, .int 0, .int (-1)]))]) [3] rfl
  have hDc := hD.sub (ws' := [(h0, .inr (8, [.ref x_tape, .ref x_reader, .ref x_current, .ref x_images, .ref x_kept, .ref x_slots, .ref x_diary, .ref x_base, .ref x_trial, .ref x_plan, .ref x_orders, .ref x_unanswered, .int 0, .int 0, .int (-1)]))]) [3] (by decide) rfl
  have hKc := hK.sub (tys' := []) [] rfl
  have hFc := va_free (wc := [(h0, .inr (8, [.ref x_tape, .ref x_reader, .ref x_current, .ref x_images, .ref x_kept, .ref x_slots, .ref x_diary, .ref x_base, .ref x_trial, .ref x_plan, .ref x_orders, .ref x_unanswered, .int 0, .int 0, .int (-1)]))]) hD hS hA [3] rfl
  refine va_calli (va_runV (As := [.int 0]) (rest := []) ⟨hx, hb, hml, hown, hts⟩ (c_isSlot0 l dC dI H.size h0 x_tape x_reader x_current x_images x_kept x_slots x_diary x_base x_trial x_plan x_orders x_unanswered ) (cwV 1 hts (goodV w_1288 w_1289 w_1290 w_2 w_1291) rfl rfl rfl hdV_X8_isSlot ⟨Nat.le_of_ble_eq_true rfl, Nat.le_of_ble_eq_true rfl⟩) ⟨fun a U g mk q => by obtain ⟨q0, q1, qP, qK, qD⟩ := q; exact ⟨q0, q1, qP, va_K.moved (u := U) (U := U.calling g mk a) (Vm.Alike.refl U.vm) qK, qD⟩, va_recv hKc hPc (ci := 8) (q0 := 0) rfl rfl, fun U hU hW => ⟨rfl, by rw [hU], by rw [hU]; exact hPc, va_K.moved hW.alike hKc, hDc.weaken (fun _ _ _ _ => trivial)⟩⟩ rfl rfl hl.1 rfl (lv_room (Nat.le_of_ble_eq_true rfl)) dX8_paste_10 ⟨Nat.le_of_ble_eq_true rfl, Nat.le_of_ble_eq_true rfl⟩) hS (fun q _ h => hFc q h) hFc (fun r_3 u t H1 locs ht hvm hw hB hz1 hk1 hS => ?_)
  obtain ⟨hP1, hK1, hD1⟩ := hB
  rw [ht] at hP1
  have hK1 := va_K.moved hvm.symm hK1
  obtain ⟨hP, hD⟩ := va_join (wr := [(x_slots, .inl (zk, 4, .inr (.inr (.inr (.inr (va_up (va_up (va_up (va_up (fun _ => none) 0 (some s0)) 1 (some s1)) 2 (some s2)) 3 (some s3))))))), (s3, .inr (5, [.ref y3, .int 0, .int 0, .int 0])), (s0, .inr (5, [.ref y0, .int 0, .int 0, .int 0]))]) (w1 := [(h0, .inr (8, [.ref x_tape, .ref x_reader, .ref x_current, .ref x_images, .ref x_kept, .ref x_slots, .ref x_diary, .ref x_base, .ref x_trial, .ref x_plan, .ref x_orders, .ref x_unanswered, .int 0, .int 0, .int (-1)]))]) hP hD [3] [0, 1, 2] rfl rfl (by decide) (by decide) hk1 hFc hP1 hD1
  clear hPc hDc hKc hFc
  generalize H1 = H at hP hS ⊢
  have hP : va_P (dC, dI) vwCl [(x_slots, .inl (zk, 4, .inr (.inr (.inr (.inr (va_up (va_up (va_up (va_up (fun _ => none) 0 (some s0)) 1 (some s1)) 2 (some s2)) 3 (some s3))))))), (s3, .inr (5, [.ref y3, .int 0, .int 0, .int 0])), (s0, .inr (5, [.ref y0, .int 0, .int 0, .int 0])), (h0, .inr (8, [.ref x_tape, .ref x_reader, .ref x_current, .ref x_images, .ref x_kept, .ref x_slots, .ref x_diary, .ref x_base, .ref x_trial, .ref x_plan, .ref x_orders, .ref x_unanswered, .int 0, .int 0, .int (-1)]))] H := hP
  have hD : va_D A [(x_slots, .inl (zk, 4, .inr (.inr (.inr (.inr (va_up (va_up (va_up (va_up (fun _ => none) 0 (some s0)) 1 (some s1)) 2 (some s2)) 3 (some s3))))))), (s3, .inr (5, [.ref y3, .int 0, .int 0, .int 0])), (s0, .inr (5, [.ref y0, .int 0, .int 0, .int 0])), (h0, .inr (8, [.ref x_tape, .ref x_reader, .ref x_current, .ref x_images, .ref x_kept, .ref x_slots, .ref x_diary, .ref x_base, .ref x_trial, .ref x_plan, .ref x_orders, .ref x_unanswered, .int 0, .int 0, .int (-1)]))] := hD
  have hw : r_3 = 1 := hw
  subst hw
  refine lv_if_ne (tgt := 19) hx hb dX8_paste_13 (by decide) (fun c_4 => ?_) (fun c_4 => absurd c_4 (by decide))
  refine lv_aload_n hx hb dX8_paste_19 rfl (lv_at hl 0 rfl) ?_
  refine va_get (D := (dC, dI)) (ci := 8) (v := .ref x_slots) (C := RX8) (T := TX8) (N := 15) hx hb hts inA8 hown hK hP 3 rfl rfl 5 (by decide) (hts _ w_29) (fun _ h9 => h9) rfl dX8_paste_20 ?_
  refine lv_iload_n hx hb dX8_paste_23 rfl (lv_at hl 1 rfl) ?_
  refine va_aldq hx hb hK hP 0 0 rfl rfl (show vp_in 3 4 from (by unfold vp_in; decide)) dX8_paste_24 ?_
  refine W.eq (g2 := F0 m 25 ls [.ref s3]) rfl ?_
  refine lv_astore (lv' := [(6, .ref s3), (0, .ref h0), (1, .int 3), (2, .int b), (3, .int 0), (4, .int a), (5, .int g_)]) hx hb dX8_paste_25 hl (by decide) rfl (fun ls hl => ?_)
  refine lv_aload_n hx hb dX8_paste_27 rfl (lv_at hl 1 rfl) ?_
  refine va_get (D := (dC, dI)) (ci := 8) (v := .ref x_slots) (C := RX8) (T := TX8) (N := 15) hx hb hts inA8 hown hK hP 3 rfl rfl 5 (by decide) (hts _ w_29) (fun _ h9 => h9) rfl dX8_paste_28 ?_
  refine lv_iload_n hx hb dX8_paste_31 rfl (lv_at hl 4 rfl) ?_
  refine va_aldq hx hb hK hP 0 0 rfl rfl (show vp_in 0 4 from (by unfold vp_in; decide)) dX8_paste_32 ?_
  refine W.eq (g2 := F0 m 33 ls [.ref s0]) rfl ?_
  refine lv_astore (lv' := [(7, .ref s0), (6, .ref s3), (0, .ref h0), (1, .int 3), (2, .int b), (3, .int 0), (4, .int a), (5, .int g_)]) hx hb dX8_paste_33 hl (by decide) rfl (fun ls hl => ?_)
  refine lv_aload hx hb dX8_paste_35 (lv_at hl 1 rfl) ?_
  refine va_get (D := (dC, dI)) (ci := 5) (v := .int 0) (C := RX5) (T := TX5) (N := 4) hx hb hts inA5 hown hK hP 1 rfl rfl 1 (by decide) (hts _ w_1283) (fun _ h9 => h9) rfl dX8_paste_37 ?_
  refine lv_if_eq (tgt := 51) hx hb dX8_paste_40 (by decide) (fun c_5 => ?_) (fun c_5 => absurd (by decide) c_5)
  refine lv_bipush (v := (-6)) hx hb dX8_paste_51 (by decide) ?_
  exact W.iret (v := (-6)) hx hb hr (fun t ht hW => ⟨⟨(-6), (), rfl, rfl, trivial⟩, hS.F ht⟩) hS.2.2 dX8_paste_53
set_option maxHeartbeats 4000000 in
set_option maxRecDepth 100000 in
theorem x_paste31 (l : Launch) (dC : Nat → ClassId) (dI : Nat → Nat → Nat) (sz : Nat) (h0 : Nat) (x_tape : Nat) (x_reader : Nat) (x_current : Nat) (x_images : Nat) (x_kept : Nat) (x_slots : Nat) (x_diary : Nat) (x_base : Nat) (x_trial : Nat) (x_plan : Nat) (x_orders : Nat) (x_unanswered : Nat) (s0 : Nat) (s1 : Nat) (s2 : Nat) (s3 : Nat) (y0 : Nat) (y1 : Nat) (y2 : Nat) (y3 : Nat) (zk : ClassId) (b : Int32) (a : Int32) (g_ : Int32)  : Met l yX8_paste (.code yX8_paste cX8_paste 8 (some .int) :: ALLW) ({ frames := 1, cells := 0, slots := 0, locals := 21 }) (va_Pc [.ref h0, .int 3, .int b, .int 1, .int a, .int g_] (fun U => U.heap.size = sz ∧ va_P (dC, dI) vwCl [(h0, .inr (8, [.ref x_tape, .ref x_reader, .ref x_current, .ref x_images, .ref x_kept, .ref x_slots, .ref x_diary, .ref x_base, .ref x_trial, .ref x_plan, .ref x_orders, .ref x_unanswered, .int 0, .int 0, .int (-1)])), (x_slots, .inl (zk, 4, .inr (.inr (.inr (.inr (va_up (va_up (va_up (va_up (fun _ => none) 0 (some s0)) 1 (some s1)) 2 (some s2)) 3 (some s3))))))), (s3, .inr (5, [.ref y3, .int 0, .int 0, .int 0])), (s1, .inr (5, [.ref y1, .int 0, .int 0, .int 0]))] U.heap ∧ va_K (dC, dI) vwCl [(zk, .object RX5)] U ∧ va_D (fun _ => True) [(h0, .inr (8, [.ref x_tape, .ref x_reader, .ref x_current, .ref x_images, .ref x_kept, .ref x_slots, .ref x_diary, .ref x_base, .ref x_trial, .ref x_plan, .ref x_orders, .ref x_unanswered, .int 0, .int 0, .int (-1)])), (x_slots, .inl (zk, 4, .inr (.inr (.inr (.inr (va_up (va_up (va_up (va_up (fun _ => none) 0 (some s0)) 1 (some s1)) 2 (some s2)) 3 (some s3))))))), (s3, .inr (5, [.ref y3, .int 0, .int 0, .int 0])), (s1, .inr (5, [.ref y1, .int 0, .int 0, .int 0]))])) (va_Qi (fun (r : Int32) (_ : Unit) => r = (-6)) (fun (_ : Unit) (_ : State) => True) (va_A [(h0, .inr (8, [.ref x_tape, .ref x_reader, .ref x_current, .ref x_images, .ref x_kept, .ref x_slots, .ref x_diary, .ref x_base, .ref x_trial, .ref x_plan, .ref x_orders, .ref x_unanswered, .int 0, .int 0, .int (-1)])), (x_slots, .inl (zk, 4, .inr (.inr (.inr (.inr (va_up (va_up (va_up (va_up (fun _ => none) 0 (some s0)) 1 (some s1)) 2 (some s2)) 3 (some s3))))))), (s3, .inr (5, [.ref y3, .int 0, .int 0, .int 0])), (s1, .inr (5, [.ref y1, .int 0, .int 0, .int 0]))] sz)) 0 0 (va_A [(h0, .inr (8, [.ref x_tape, .ref x_reader, .ref x_current, .ref x_images, .ref x_kept, .ref x_slots, .ref x_diary, .ref x_base, .ref x_trial, .ref x_plan, .ref x_orders, .ref x_unanswered, .int 0, .int 0, .int (-1)])), (x_slots, .inl (zk, 4, .inr (.inr (.inr (.inr (va_up (va_up (va_up (va_up (fun _ => none) 0 (some s0)) 1 (some s1)) 2 (some s2)) 3 (some s3))))))), (s3, .inr (5, [.ref y3, .int 0, .int 0, .int 0])), (s1, .inr (5, [.ref y1, .int 0, .int 0, .int 0]))] sz) := by
  refine Met.ofW (cc := cX8_paste) (maxL := 8) (ret := (some .int)) (by decide) rfl ?_
  intro p e s m args below meth c s₁ B hml hv
  obtain ⟨rfl, hsz, hP, hK, hD0⟩ := hv
  have hx := B.exec
  have hb := B.bytes
  have hr := B.returns
  have hts0 := atoms_spec (ws := (.code yX8_paste cX8_paste 8 (some .int) :: ALLW)) B.pre
  have hts := fun (w : Cond) (h : w ∈ ALLW) => hts0 w (List.mem_cons_of_mem _ h)
  have hown : s.vm.findClass RX8 = some m.cls := findClass_of_methodNamed B.named
  have hlocks := B.notSynchronized
  subst hsz
  have hD := hD0.self (sz := s.heap.size)
  generalize hAe : va_A [(h0, .inr (8, [.ref x_tape, .ref x_reader, .ref x_current, .ref x_images, .ref x_kept, .ref x_slots, .ref x_diary, .ref x_base, .ref x_trial, .ref x_plan, .ref x_orders, .ref x_unanswered, .int 0, .int 0, .int (-1)])), (x_slots, .inl (zk, 4, .inr (.inr (.inr (.inr (va_up (va_up (va_up (va_up (fun _ => none) 0 (some s0)) 1 (some s1)) 2 (some s2)) 3 (some s3))))))), (s3, .inr (5, [.ref y3, .int 0, .int 0, .int 0])), (s1, .inr (5, [.ref y1, .int 0, .int 0, .int 0]))] s.heap.size = A at hD ⊢
  have hA : ∀ q : Nat, s.heap.size ≤ q → A q := fun q h => by rw [← hAe]; exact Or.inr h
  have hS : va_S A s.heap s.heap [] := va_S.rf
  have hP : va_P (dC, dI) vwCl [(h0, .inr (8, [.ref x_tape, .ref x_reader, .ref x_current, .ref x_images, .ref x_kept, .ref x_slots, .ref x_diary, .ref x_base, .ref x_trial, .ref x_plan, .ref x_orders, .ref x_unanswered, .int 0, .int 0, .int (-1)])), (x_slots, .inl (zk, 4, .inr (.inr (.inr (.inr (va_up (va_up (va_up (va_up (fun _ => none) 0 (some s0)) 1 (some s1)) 2 (some s2)) 3 (some s3))))))), (s3, .inr (5, [.ref y3, .int 0, .int 0, .int 0])), (s1, .inr (5, [.ref y1, .int 0, .int 0, .int 0]))] s.heap := hP
  have hl := lv_entry ([.ref h0, .int 3, .int b, .int 1, .int a, .int g_]) (n := 8) (Nat.le_of_ble_eq_true rfl)
  rw [lg_entry_eq]
  generalize (lg_sl ([.ref h0, .int 3, .int b, .int 1, .int a, .int g_]) ++ List.replicate (8 - (lg_sl ([.ref h0, .int 3, .int b, .int 1, .int a, .int g_])).length) Slot.unset).toArray = ls at hl ⊢
  have hl : lv_has ls 8 [(0, .ref h0), (1, .int 3), (2, .int b), (3, .int 1), (4, .int a), (5, .int g_)] := hl
  refine lv_aload_n hx hb dX8_paste_0 rfl (lv_at hl 0 rfl) ?_
  refine lv_iload_n hx hb dX8_paste_1 rfl (lv_at hl 1 rfl) ?_
  have hPc := hP.sub (ws' := [(h0, .inr (8, [.ref x_tape, .ref x_reader, .ref x_current, .ref x_images, .ref x_kept, .ref x_slots, .ref x_diary, .ref x_base, .ref x_trial, .ref x_plan, .ref x_orders, .ref x_unanswered, .int 0, .int 0, .int (-1)]))]) [0] rfl
  have hDc := hD.sub (ws' := [(h0, .inr (8, [.ref x_tape, .ref x_reader, .ref x_current, .ref x_images, .ref x_kept, .ref x_slots, .ref x_diary, .ref x_base, .ref x_trial, .ref x_plan, .ref x_orders, .ref x_unanswered, .int 0, .int 0, .int (-1)]))]) [0] (by decide) rfl
  have hKc := hK.sub (tys' := []) [] rfl
  have hFc := va_free (wc := [(h0, .inr (8, [.ref x_tape, .ref x_reader, .ref x_current, .ref x_images, .ref x_kept, .ref x_slots, .ref x_diary, .ref x_base, .ref x_trial, .ref x_plan, .ref x_orders, .ref x_unanswered, .int 0, .int 0, .int (-1)]))]) hD hS hA [0] rfl
  refine va_calli (va_runV (As := [.int 3]) (rest := []) ⟨hx, hb, hml, hown, hts⟩ (c_isSlot3 l dC dI s.heap.size h0 x_tape x_reader x_current x_images x_kept x_slots x_diary x_base x_trial x_plan x_orders x_unanswered ) (cwV 1 hts (goodV w_1288 w_1289 w_1290 w_2 w_1291) rfl rfl rfl hdV_X8_isSlot ⟨Nat.le_of_ble_eq_true rfl, Nat.le_of_ble_eq_true rfl⟩) ⟨fun a U g mk q => by obtain ⟨q0, q1, qP, qK, qD⟩ := q; exact ⟨q0, q1, qP, va_K.moved (u := U) (U := U.calling g mk a) (Vm.Alike.refl U.vm) qK, qD⟩, va_recv hKc hPc (ci := 8) (q0 := 0) rfl rfl, fun U hU hW => ⟨rfl, by rw [hU], by rw [hU]; exact hPc, va_K.moved hW.alike hKc, hDc.weaken (fun _ _ _ _ => trivial)⟩⟩ rfl rfl hl.1 rfl (lv_room (Nat.le_of_ble_eq_true rfl)) dX8_paste_2 ⟨Nat.le_of_ble_eq_true rfl, Nat.le_of_ble_eq_true rfl⟩) hS (fun q _ h => hFc q h) hFc (fun r_1 u t H1 locs ht hvm hw hB hz1 hk1 hS => ?_)
  obtain ⟨hP1, hK1, hD1⟩ := hB
  rw [ht] at hP1
  have hK1 := va_K.moved hvm.symm hK1
  obtain ⟨hP, hD⟩ := va_join (wr := [(x_slots, .inl (zk, 4, .inr (.inr (.inr (.inr (va_up (va_up (va_up (va_up (fun _ => none) 0 (some s0)) 1 (some s1)) 2 (some s2)) 3 (some s3))))))), (s3, .inr (5, [.ref y3, .int 0, .int 0, .int 0])), (s1, .inr (5, [.ref y1, .int 0, .int 0, .int 0]))]) (w1 := [(h0, .inr (8, [.ref x_tape, .ref x_reader, .ref x_current, .ref x_images, .ref x_kept, .ref x_slots, .ref x_diary, .ref x_base, .ref x_trial, .ref x_plan, .ref x_orders, .ref x_unanswered, .int 0, .int 0, .int (-1)]))]) hP hD [0] [1, 2, 3] rfl rfl (by decide) (by decide) hk1 hFc hP1 hD1
  clear hPc hDc hKc hFc
  generalize H1 = H at hP hS ⊢
  have hP : va_P (dC, dI) vwCl [(x_slots, .inl (zk, 4, .inr (.inr (.inr (.inr (va_up (va_up (va_up (va_up (fun _ => none) 0 (some s0)) 1 (some s1)) 2 (some s2)) 3 (some s3))))))), (s3, .inr (5, [.ref y3, .int 0, .int 0, .int 0])), (s1, .inr (5, [.ref y1, .int 0, .int 0, .int 0])), (h0, .inr (8, [.ref x_tape, .ref x_reader, .ref x_current, .ref x_images, .ref x_kept, .ref x_slots, .ref x_diary, .ref x_base, .ref x_trial, .ref x_plan, .ref x_orders, .ref x_unanswered, .int 0, .int 0, .int (-1)]))] H := hP
  have hD : va_D A [(x_slots, .inl (zk, 4, .inr (.inr (.inr (.inr (va_up (va_up (va_up (va_up (fun _ => none) 0 (some s0)) 1 (some s1)) 2 (some s2)) 3 (some s3))))))), (s3, .inr (5, [.ref y3, .int 0, .int 0, .int 0])), (s1, .inr (5, [.ref y1, .int 0, .int 0, .int 0])), (h0, .inr (8, [.ref x_tape, .ref x_reader, .ref x_current, .ref x_images, .ref x_kept, .ref x_slots, .ref x_diary, .ref x_base, .ref x_trial, .ref x_plan, .ref x_orders, .ref x_unanswered, .int 0, .int 0, .int (-1)]))] := hD
  have hw : r_1 = 1 := hw
  subst hw
  refine lv_if_eq (tgt := 16) hx hb dX8_paste_5 (by decide) (fun c_2 => absurd c_2 (by decide)) (fun c_2 => ?_)
  refine lv_aload_n hx hb dX8_paste_8 rfl (lv_at hl 0 rfl) ?_
  refine lv_iload_n hx hb dX8_paste_9 rfl (lv_at hl 3 rfl) ?_
  have hPc := hP.sub (ws' := [(h0, .inr (8, [.ref x_tape, .ref x_reader, .ref x_current, .ref x_images, .ref x_kept, .ref x_slots, .ref x_diary, .ref x_base, .ref x_trial, .ref x_plan, .ref x_orders, .ref x_unanswered, .int 0, .int 0, .int (-1)]))]) [3] rfl
  have hDc := hD.sub (ws' := [(h0, .inr (8, [.ref x_tape, .ref x_reader, .ref x_current, .ref x_images, .ref x_kept, .ref x_slots, .ref x_diary, .ref x_base, .ref x_trial, .ref x_plan, .ref x_orders, .ref x_unanswered, .int 0, .int 0, .int (-1)]))]) [3] (by decide) rfl
  have hKc := hK.sub (tys' := []) [] rfl
  have hFc := va_free (wc := [(h0, .inr (8, [.ref x_tape, .ref x_reader, .ref x_current, .ref x_images, .ref x_kept, .ref x_slots, .ref x_diary, .ref x_base, .ref x_trial, .ref x_plan, .ref x_orders, .ref x_unanswered, .int 0, .int 0, .int (-1)]))]) hD hS hA [3] rfl
  refine va_calli (va_runV (As := [.int 1]) (rest := []) ⟨hx, hb, hml, hown, hts⟩ (c_isSlot1 l dC dI H.size h0 x_tape x_reader x_current x_images x_kept x_slots x_diary x_base x_trial x_plan x_orders x_unanswered ) (cwV 1 hts (goodV w_1288 w_1289 w_1290 w_2 w_1291) rfl rfl rfl hdV_X8_isSlot ⟨Nat.le_of_ble_eq_true rfl, Nat.le_of_ble_eq_true rfl⟩) ⟨fun a U g mk q => by obtain ⟨q0, q1, qP, qK, qD⟩ := q; exact ⟨q0, q1, qP, va_K.moved (u := U) (U := U.calling g mk a) (Vm.Alike.refl U.vm) qK, qD⟩, va_recv hKc hPc (ci := 8) (q0 := 0) rfl rfl, fun U hU hW => ⟨rfl, by rw [hU], by rw [hU]; exact hPc, va_K.moved hW.alike hKc, hDc.weaken (fun _ _ _ _ => trivial)⟩⟩ rfl rfl hl.1 rfl (lv_room (Nat.le_of_ble_eq_true rfl)) dX8_paste_10 ⟨Nat.le_of_ble_eq_true rfl, Nat.le_of_ble_eq_true rfl⟩) hS (fun q _ h => hFc q h) hFc (fun r_3 u t H1 locs ht hvm hw hB hz1 hk1 hS => ?_)
  obtain ⟨hP1, hK1, hD1⟩ := hB
  rw [ht] at hP1
  have hK1 := va_K.moved hvm.symm hK1
  obtain ⟨hP, hD⟩ := va_join (wr := [(x_slots, .inl (zk, 4, .inr (.inr (.inr (.inr (va_up (va_up (va_up (va_up (fun _ => none) 0 (some s0)) 1 (some s1)) 2 (some s2)) 3 (some s3))))))), (s3, .inr (5, [.ref y3, .int 0, .int 0, .int 0])), (s1, .inr (5, [.ref y1, .int 0, .int 0, .int 0]))]) (w1 := [(h0, .inr (8, [.ref x_tape, .ref x_reader, .ref x_current, .ref x_images, .ref x_kept, .ref x_slots, .ref x_diary, .ref x_base, .ref x_trial, .ref x_plan, .ref x_orders, .ref x_unanswered, .int 0, .int 0, .int (-1)]))]) hP hD [3] [0, 1, 2] rfl rfl (by decide) (by decide) hk1 hFc hP1 hD1
  clear hPc hDc hKc hFc
  generalize H1 = H at hP hS ⊢
  have hP : va_P (dC, dI) vwCl [(x_slots, .inl (zk, 4, .inr (.inr (.inr (.inr (va_up (va_up (va_up (va_up (fun _ => none) 0 (some s0)) 1 (some s1)) 2 (some s2)) 3 (some s3))))))), (s3, .inr (5, [.ref y3, .int 0, .int 0, .int 0])), (s1, .inr (5, [.ref y1, .int 0, .int 0, .int 0])), (h0, .inr (8, [.ref x_tape, .ref x_reader, .ref x_current, .ref x_images, .ref x_kept, .ref x_slots, .ref x_diary, .ref x_base, .ref x_trial, .ref x_plan, .ref x_orders, .ref x_unanswered, .int 0, .int 0, .int (-1)]))] H := hP
  have hD : va_D A [(x_slots, .inl (zk, 4, .inr (.inr (.inr (.inr (va_up (va_up (va_up (va_up (fun _ => none) 0 (some s0)) 1 (some s1)) 2 (some s2)) 3 (some s3))))))), (s3, .inr (5, [.ref y3, .int 0, .int 0, .int 0])), (s1, .inr (5, [.ref y1, .int 0, .int 0, .int 0])), (h0, .inr (8, [.ref x_tape, .ref x_reader, .ref x_current, .ref x_images, .ref x_kept, .ref x_slots, .ref x_diary, .ref x_base, .ref x_trial, .ref x_plan, .ref x_orders, .ref x_unanswered, .int 0, .int 0, .int (-1)]))] := hD
  have hw : r_3 = 1 := hw
  subst hw
  refine lv_if_ne (tgt := 19) hx hb dX8_paste_13 (by decide) (fun c_4 => ?_) (fun c_4 => absurd c_4 (by decide))
  refine lv_aload_n hx hb dX8_paste_19 rfl (lv_at hl 0 rfl) ?_
  refine va_get (D := (dC, dI)) (ci := 8) (v := .ref x_slots) (C := RX8) (T := TX8) (N := 15) hx hb hts inA8 hown hK hP 3 rfl rfl 5 (by decide) (hts _ w_29) (fun _ h9 => h9) rfl dX8_paste_20 ?_
  refine lv_iload_n hx hb dX8_paste_23 rfl (lv_at hl 1 rfl) ?_
  refine va_aldq hx hb hK hP 0 0 rfl rfl (show vp_in 3 4 from (by unfold vp_in; decide)) dX8_paste_24 ?_
  refine W.eq (g2 := F0 m 25 ls [.ref s3]) rfl ?_
  refine lv_astore (lv' := [(6, .ref s3), (0, .ref h0), (1, .int 3), (2, .int b), (3, .int 1), (4, .int a), (5, .int g_)]) hx hb dX8_paste_25 hl (by decide) rfl (fun ls hl => ?_)
  refine lv_aload_n hx hb dX8_paste_27 rfl (lv_at hl 1 rfl) ?_
  refine va_get (D := (dC, dI)) (ci := 8) (v := .ref x_slots) (C := RX8) (T := TX8) (N := 15) hx hb hts inA8 hown hK hP 3 rfl rfl 5 (by decide) (hts _ w_29) (fun _ h9 => h9) rfl dX8_paste_28 ?_
  refine lv_iload_n hx hb dX8_paste_31 rfl (lv_at hl 4 rfl) ?_
  refine va_aldq hx hb hK hP 0 0 rfl rfl (show vp_in 1 4 from (by unfold vp_in; decide)) dX8_paste_32 ?_
  refine W.eq (g2 := F0 m 33 ls [.ref s1]) rfl ?_
  refine lv_astore (lv' := [(7, .ref s1), (6, .ref s3), (0, .ref h0), (1, .int 3), (2, .int b), (3, .int 1), (4, .int a), (5, .int g_)]) hx hb dX8_paste_33 hl (by decide) rfl (fun ls hl => ?_)
  refine lv_aload hx hb dX8_paste_35 (lv_at hl 1 rfl) ?_
  refine va_get (D := (dC, dI)) (ci := 5) (v := .int 0) (C := RX5) (T := TX5) (N := 4) hx hb hts inA5 hown hK hP 1 rfl rfl 1 (by decide) (hts _ w_1283) (fun _ h9 => h9) rfl dX8_paste_37 ?_
  refine lv_if_eq (tgt := 51) hx hb dX8_paste_40 (by decide) (fun c_5 => ?_) (fun c_5 => absurd (by decide) c_5)
  refine lv_bipush (v := (-6)) hx hb dX8_paste_51 (by decide) ?_
  exact W.iret (v := (-6)) hx hb hr (fun t ht hW => ⟨⟨(-6), (), rfl, rfl, trivial⟩, hS.F ht⟩) hS.2.2 dX8_paste_53
set_option maxHeartbeats 4000000 in
set_option maxRecDepth 100000 in
theorem x_paste32 (l : Launch) (dC : Nat → ClassId) (dI : Nat → Nat → Nat) (sz : Nat) (h0 : Nat) (x_tape : Nat) (x_reader : Nat) (x_current : Nat) (x_images : Nat) (x_kept : Nat) (x_slots : Nat) (x_diary : Nat) (x_base : Nat) (x_trial : Nat) (x_plan : Nat) (x_orders : Nat) (x_unanswered : Nat) (s0 : Nat) (s1 : Nat) (s2 : Nat) (s3 : Nat) (y0 : Nat) (y1 : Nat) (y2 : Nat) (y3 : Nat) (zk : ClassId) (b : Int32) (a : Int32) (g_ : Int32)  : Met l yX8_paste (.code yX8_paste cX8_paste 8 (some .int) :: ALLW) ({ frames := 1, cells := 0, slots := 0, locals := 21 }) (va_Pc [.ref h0, .int 3, .int b, .int 2, .int a, .int g_] (fun U => U.heap.size = sz ∧ va_P (dC, dI) vwCl [(h0, .inr (8, [.ref x_tape, .ref x_reader, .ref x_current, .ref x_images, .ref x_kept, .ref x_slots, .ref x_diary, .ref x_base, .ref x_trial, .ref x_plan, .ref x_orders, .ref x_unanswered, .int 0, .int 0, .int (-1)])), (x_slots, .inl (zk, 4, .inr (.inr (.inr (.inr (va_up (va_up (va_up (va_up (fun _ => none) 0 (some s0)) 1 (some s1)) 2 (some s2)) 3 (some s3))))))), (s3, .inr (5, [.ref y3, .int 0, .int 0, .int 0])), (s2, .inr (5, [.ref y2, .int 0, .int 0, .int 0]))] U.heap ∧ va_K (dC, dI) vwCl [(zk, .object RX5)] U ∧ va_D (fun _ => True) [(h0, .inr (8, [.ref x_tape, .ref x_reader, .ref x_current, .ref x_images, .ref x_kept, .ref x_slots, .ref x_diary, .ref x_base, .ref x_trial, .ref x_plan, .ref x_orders, .ref x_unanswered, .int 0, .int 0, .int (-1)])), (x_slots, .inl (zk, 4, .inr (.inr (.inr (.inr (va_up (va_up (va_up (va_up (fun _ => none) 0 (some s0)) 1 (some s1)) 2 (some s2)) 3 (some s3))))))), (s3, .inr (5, [.ref y3, .int 0, .int 0, .int 0])), (s2, .inr (5, [.ref y2, .int 0, .int 0, .int 0]))])) (va_Qi (fun (r : Int32) (_ : Unit) => r = (-6)) (fun (_ : Unit) (_ : State) => True) (va_A [(h0, .inr (8, [.ref x_tape, .ref x_reader, .ref x_current, .ref x_images, .ref x_kept, .ref x_slots, .ref x_diary, .ref x_base, .ref x_trial, .ref x_plan, .ref x_orders, .ref x_unanswered, .int 0, .int 0, .int (-1)])), (x_slots, .inl (zk, 4, .inr (.inr (.inr (.inr (va_up (va_up (va_up (va_up (fun _ => none) 0 (some s0)) 1 (some s1)) 2 (some s2)) 3 (some s3))))))), (s3, .inr (5, [.ref y3, .int 0, .int 0, .int 0])), (s2, .inr (5, [.ref y2, .int 0, .int 0, .int 0]))] sz)) 0 0 (va_A [(h0, .inr (8, [.ref x_tape, .ref x_reader, .ref x_current, .ref x_images, .ref x_kept, .ref x_slots, .ref x_diary, .ref x_base, .ref x_trial, .ref x_plan, .ref x_orders, .ref x_unanswered, .int 0, .int 0, .int (-1)])), (x_slots, .inl (zk, 4, .inr (.inr (.inr (.inr (va_up (va_up (va_up (va_up (fun _ => none) 0 (some s0)) 1 (some s1)) 2 (some s2)) 3 (some s3))))))), (s3, .inr (5, [.ref y3, .int 0, .int 0, .int 0])), (s2, .inr (5, [.ref y2, .int 0, .int 0, .int 0]))] sz) := by
  refine Met.ofW (cc := cX8_paste) (maxL := 8) (ret := (some .int)) (by decide) rfl ?_
  intro p e s m args below meth c s₁ B hml hv
  obtain ⟨rfl, hsz, hP, hK, hD0⟩ := hv
  have hx := B.exec
  have hb := B.bytes
  have hr := B.returns
  have hts0 := atoms_spec (ws := (.code yX8_paste cX8_paste 8 (some .int) :: ALLW)) B.pre
  have hts := fun (w : Cond) (h : w ∈ ALLW) => hts0 w (List.mem_cons_of_mem _ h)
  have hown : s.vm.findClass RX8 = some m.cls := findClass_of_methodNamed B.named
  have hlocks := B.notSynchronized
  subst hsz
  have hD := hD0.self (sz := s.heap.size)
  generalize hAe : va_A [(h0, .inr (8, [.ref x_tape, .ref x_reader, .ref x_current, .ref x_images, .ref x_kept, .ref x_slots, .ref x_diary, .ref x_base, .ref x_trial, .ref x_plan, .ref x_orders, .ref x_unanswered, .int 0, .int 0, .int (-1)])), (x_slots, .inl (zk, 4, .inr (.inr (.inr (.inr (va_up (va_up (va_up (va_up (fun _ => none) 0 (some s0)) 1 (some s1)) 2 (some s2)) 3 (some s3))))))), (s3, .inr (5, [.ref y3, .int 0, .int 0, .int 0])), (s2, .inr (5, [.ref y2, .int 0, .int 0, .int 0]))] s.heap.size = A at hD ⊢
  have hA : ∀ q : Nat, s.heap.size ≤ q → A q := fun q h => by rw [← hAe]; exact Or.inr h
  have hS : va_S A s.heap s.heap [] := va_S.rf
  have hP : va_P (dC, dI) vwCl [(h0, .inr (8, [.ref x_tape, .ref x_reader, .ref x_current, .ref x_images, .ref x_kept, .ref x_slots, .ref x_diary, .ref x_base, .ref x_trial, .ref x_plan, .ref x_orders, .ref x_unanswered, .int 0, .int 0, .int (-1)])), (x_slots, .inl (zk, 4, .inr (.inr (.inr (.inr (va_up (va_up (va_up (va_up (fun _ => none) 0 (some s0)) 1 (some s1)) 2 (some s2)) 3 (some s3))))))), (s3, .inr (5, [.ref y3, .int 0, .int 0, .int 0])), (s2, .inr (5, [.ref y2, .int 0, .int 0, .int 0]))] s.heap := hP
  have hl := lv_entry ([.ref h0, .int 3, .int b, .int 2, .int a, .int g_]) (n := 8) (Nat.le_of_ble_eq_true rfl)
  rw [lg_entry_eq]
  generalize (lg_sl ([.ref h0, .int 3, .int b, .int 2, .int a, .int g_]) ++ List.replicate (8 - (lg_sl ([.ref h0, .int 3, .int b, .int 2, .int a, .int g_])).length) Slot.unset).toArray = ls at hl ⊢
  have hl : lv_has ls 8 [(0, .ref h0), (1, .int 3), (2, .int b), (3, .int 2), (4, .int a), (5, .int g_)] := hl
  refine lv_aload_n hx hb dX8_paste_0 rfl (lv_at hl 0 rfl) ?_
  refine lv_iload_n hx hb dX8_paste_1 rfl (lv_at hl 1 rfl) ?_
  have hPc := hP.sub (ws' := [(h0, .inr (8, [.ref x_tape, .ref x_reader, .ref x_current, .ref x_images, .ref x_kept, .ref x_slots, .ref x_diary, .ref x_base, .ref x_trial, .ref x_plan, .ref x_orders, .ref x_unanswered, .int 0, .int 0, .int (-1)]))]) [0] rfl
  have hDc := hD.sub (ws' := [(h0, .inr (8, [.ref x_tape, .ref x_reader, .ref x_current, .ref x_images, .ref x_kept, .ref x_slots, .ref x_diary, .ref x_base, .ref x_trial, .ref x_plan, .ref x_orders, .ref x_unanswered, .int 0, .int 0, .int (-1)]))]) [0] (by decide) rfl
  have hKc := hK.sub (tys' := []) [] rfl
  have hFc := va_free (wc := [(h0, .inr (8, [.ref x_tape, .ref x_reader, .ref x_current, .ref x_images, .ref x_kept, .ref x_slots, .ref x_diary, .ref x_base, .ref x_trial, .ref x_plan, .ref x_orders, .ref x_unanswered, .int 0, .int 0, .int (-1)]))]) hD hS hA [0] rfl
  refine va_calli (va_runV (As := [.int 3]) (rest := []) ⟨hx, hb, hml, hown, hts⟩ (c_isSlot3 l dC dI s.heap.size h0 x_tape x_reader x_current x_images x_kept x_slots x_diary x_base x_trial x_plan x_orders x_unanswered ) (cwV 1 hts (goodV w_1288 w_1289 w_1290 w_2 w_1291) rfl rfl rfl hdV_X8_isSlot ⟨Nat.le_of_ble_eq_true rfl, Nat.le_of_ble_eq_true rfl⟩) ⟨fun a U g mk q => by obtain ⟨q0, q1, qP, qK, qD⟩ := q; exact ⟨q0, q1, qP, va_K.moved (u := U) (U := U.calling g mk a) (Vm.Alike.refl U.vm) qK, qD⟩, va_recv hKc hPc (ci := 8) (q0 := 0) rfl rfl, fun U hU hW => ⟨rfl, by rw [hU], by rw [hU]; exact hPc, va_K.moved hW.alike hKc, hDc.weaken (fun _ _ _ _ => trivial)⟩⟩ rfl rfl hl.1 rfl (lv_room (Nat.le_of_ble_eq_true rfl)) dX8_paste_2 ⟨Nat.le_of_ble_eq_true rfl, Nat.le_of_ble_eq_true rfl⟩) hS (fun q _ h => hFc q h) hFc (fun r_1 u t H1 locs ht hvm hw hB hz1 hk1 hS => ?_)
  obtain ⟨hP1, hK1, hD1⟩ := hB
  rw [ht] at hP1
  have hK1 := va_K.moved hvm.symm hK1
  obtain ⟨hP, hD⟩ := va_join (wr := [(x_slots, .inl (zk, 4, .inr (.inr (.inr (.inr (va_up (va_up (va_up (va_up (fun _ => none) 0 (some s0)) 1 (some s1)) 2 (some s2)) 3 (some s3))))))), (s3, .inr (5, [.ref y3, .int 0, .int 0, .int 0])), (s2, .inr (5, [.ref y2, .int 0, .int 0, .int 0]))]) (w1 := [(h0, .inr (8, [.ref x_tape, .ref x_reader, .ref x_current, .ref x_images, .ref x_kept, .ref x_slots, .ref x_diary, .ref x_base, .ref x_trial, .ref x_plan, .ref x_orders, .ref x_unanswered, .int 0, .int 0, .int (-1)]))]) hP hD [0] [1, 2, 3] rfl rfl (by decide) (by decide) hk1 hFc hP1 hD1
  clear hPc hDc hKc hFc
  generalize H1 = H at hP hS ⊢
  have hP : va_P (dC, dI) vwCl [(x_slots, .inl (zk, 4, .inr (.inr (.inr (.inr (va_up (va_up (va_up (va_up (fun _ => none) 0 (some s0)) 1 (some s1)) 2 (some s2)) 3 (some s3))))))), (s3, .inr (5, [.ref y3, .int 0, .int 0, .int 0])), (s2, .inr (5, [.ref y2, .int 0, .int 0, .int 0])), (h0, .inr (8, [.ref x_tape, .ref x_reader, .ref x_current, .ref x_images, .ref x_kept, .ref x_slots, .ref x_diary, .ref x_base, .ref x_trial, .ref x_plan, .ref x_orders, .ref x_unanswered, .int 0, .int 0, .int (-1)]))] H := hP
  have hD : va_D A [(x_slots, .inl (zk, 4, .inr (.inr (.inr (.inr (va_up (va_up (va_up (va_up (fun _ => none) 0 (some s0)) 1 (some s1)) 2 (some s2)) 3 (some s3))))))), (s3, .inr (5, [.ref y3, .int 0, .int 0, .int 0])), (s2, .inr (5, [.ref y2, .int 0, .int 0, .int 0])), (h0, .inr (8, [.ref x_tape, .ref x_reader, .ref x_current, .ref x_images, .ref x_kept, .ref x_slots, .ref x_diary, .ref x_base, .ref x_trial, .ref x_plan, .ref x_orders, .ref x_unanswered, .int 0, .int 0, .int (-1)]))] := hD
  have hw : r_1 = 1 := hw
  subst hw
  refine lv_if_eq (tgt := 16) hx hb dX8_paste_5 (by decide) (fun c_2 => absurd c_2 (by decide)) (fun c_2 => ?_)
  refine lv_aload_n hx hb dX8_paste_8 rfl (lv_at hl 0 rfl) ?_
  refine lv_iload_n hx hb dX8_paste_9 rfl (lv_at hl 3 rfl) ?_
  have hPc := hP.sub (ws' := [(h0, .inr (8, [.ref x_tape, .ref x_reader, .ref x_current, .ref x_images, .ref x_kept, .ref x_slots, .ref x_diary, .ref x_base, .ref x_trial, .ref x_plan, .ref x_orders, .ref x_unanswered, .int 0, .int 0, .int (-1)]))]) [3] rfl
  have hDc := hD.sub (ws' := [(h0, .inr (8, [.ref x_tape, .ref x_reader, .ref x_current, .ref x_images, .ref x_kept, .ref x_slots, .ref x_diary, .ref x_base, .ref x_trial, .ref x_plan, .ref x_orders, .ref x_unanswered, .int 0, .int 0, .int (-1)]))]) [3] (by decide) rfl
  have hKc := hK.sub (tys' := []) [] rfl
  have hFc := va_free (wc := [(h0, .inr (8, [.ref x_tape, .ref x_reader, .ref x_current, .ref x_images, .ref x_kept, .ref x_slots, .ref x_diary, .ref x_base, .ref x_trial, .ref x_plan, .ref x_orders, .ref x_unanswered, .int 0, .int 0, .int (-1)]))]) hD hS hA [3] rfl
  refine va_calli (va_runV (As := [.int 2]) (rest := []) ⟨hx, hb, hml, hown, hts⟩ (c_isSlot2 l dC dI H.size h0 x_tape x_reader x_current x_images x_kept x_slots x_diary x_base x_trial x_plan x_orders x_unanswered ) (cwV 1 hts (goodV w_1288 w_1289 w_1290 w_2 w_1291) rfl rfl rfl hdV_X8_isSlot ⟨Nat.le_of_ble_eq_true rfl, Nat.le_of_ble_eq_true rfl⟩) ⟨fun a U g mk q => by obtain ⟨q0, q1, qP, qK, qD⟩ := q; exact ⟨q0, q1, qP, va_K.moved (u := U) (U := U.calling g mk a) (Vm.Alike.refl U.vm) qK, qD⟩, va_recv hKc hPc (ci := 8) (q0 := 0) rfl rfl, fun U hU hW => ⟨rfl, by rw [hU], by rw [hU]; exact hPc, va_K.moved hW.alike hKc, hDc.weaken (fun _ _ _ _ => trivial)⟩⟩ rfl rfl hl.1 rfl (lv_room (Nat.le_of_ble_eq_true rfl)) dX8_paste_10 ⟨Nat.le_of_ble_eq_true rfl, Nat.le_of_ble_eq_true rfl⟩) hS (fun q _ h => hFc q h) hFc (fun r_3 u t H1 locs ht hvm hw hB hz1 hk1 hS => ?_)
  obtain ⟨hP1, hK1, hD1⟩ := hB
  rw [ht] at hP1
  have hK1 := va_K.moved hvm.symm hK1
  obtain ⟨hP, hD⟩ := va_join (wr := [(x_slots, .inl (zk, 4, .inr (.inr (.inr (.inr (va_up (va_up (va_up (va_up (fun _ => none) 0 (some s0)) 1 (some s1)) 2 (some s2)) 3 (some s3))))))), (s3, .inr (5, [.ref y3, .int 0, .int 0, .int 0])), (s2, .inr (5, [.ref y2, .int 0, .int 0, .int 0]))]) (w1 := [(h0, .inr (8, [.ref x_tape, .ref x_reader, .ref x_current, .ref x_images, .ref x_kept, .ref x_slots, .ref x_diary, .ref x_base, .ref x_trial, .ref x_plan, .ref x_orders, .ref x_unanswered, .int 0, .int 0, .int (-1)]))]) hP hD [3] [0, 1, 2] rfl rfl (by decide) (by decide) hk1 hFc hP1 hD1
  clear hPc hDc hKc hFc
  generalize H1 = H at hP hS ⊢
  have hP : va_P (dC, dI) vwCl [(x_slots, .inl (zk, 4, .inr (.inr (.inr (.inr (va_up (va_up (va_up (va_up (fun _ => none) 0 (some s0)) 1 (some s1)) 2 (some s2)) 3 (some s3))))))), (s3, .inr (5, [.ref y3, .int 0, .int 0, .int 0])), (s2, .inr (5, [.ref y2, .int 0, .int 0, .int 0])), (h0, .inr (8, [.ref x_tape, .ref x_reader, .ref x_current, .ref x_images, .ref x_kept, .ref x_slots, .ref x_diary, .ref x_base, .ref x_trial, .ref x_plan, .ref x_orders, .ref x_unanswered, .int 0, .int 0, .int (-1)]))] H := hP
  have hD : va_D A [(x_slots, .inl (zk, 4, .inr (.inr (.inr (.inr (va_up (va_up (va_up (va_up (fun _ => none) 0 (some s0)) 1 (some s1)) 2 (some s2)) 3 (some s3))))))), (s3, .inr (5, [.ref y3, .int 0, .int 0, .int 0])), (s2, .inr (5, [.ref y2, .int 0, .int 0, .int 0])), (h0, .inr (8, [.ref x_tape, .ref x_reader, .ref x_current, .ref x_images, .ref x_kept, .ref x_slots, .ref x_diary, .ref x_base, .ref x_trial, .ref x_plan, .ref x_orders, .ref x_unanswered, .int 0, .int 0, .int (-1)]))] := hD
  have hw : r_3 = 1 := hw
  subst hw
  refine lv_if_ne (tgt := 19) hx hb dX8_paste_13 (by decide) (fun c_4 => ?_) (fun c_4 => absurd c_4 (by decide))
  refine lv_aload_n hx hb dX8_paste_19 rfl (lv_at hl 0 rfl) ?_
  refine va_get (D := (dC, dI)) (ci := 8) (v := .ref x_slots) (C := RX8) (T := TX8) (N := 15) hx hb hts inA8 hown hK hP 3 rfl rfl 5 (by decide) (hts _ w_29) (fun _ h9 => h9) rfl dX8_paste_20 ?_
  refine lv_iload_n hx hb dX8_paste_23 rfl (lv_at hl 1 rfl) ?_
  refine va_aldq hx hb hK hP 0 0 rfl rfl (show vp_in 3 4 from (by unfold vp_in; decide)) dX8_paste_24 ?_
  refine W.eq (g2 := F0 m 25 ls [.ref s3]) rfl ?_
  refine lv_astore (lv' := [(6, .ref s3), (0, .ref h0), (1, .int 3), (2, .int b), (3, .int 2), (4, .int a), (5, .int g_)]) hx hb dX8_paste_25 hl (by decide) rfl (fun ls hl => ?_)
  refine lv_aload_n hx hb dX8_paste_27 rfl (lv_at hl 1 rfl) ?_
  refine va_get (D := (dC, dI)) (ci := 8) (v := .ref x_slots) (C := RX8) (T := TX8) (N := 15) hx hb hts inA8 hown hK hP 3 rfl rfl 5 (by decide) (hts _ w_29) (fun _ h9 => h9) rfl dX8_paste_28 ?_
  refine lv_iload_n hx hb dX8_paste_31 rfl (lv_at hl 4 rfl) ?_
  refine va_aldq hx hb hK hP 0 0 rfl rfl (show vp_in 2 4 from (by unfold vp_in; decide)) dX8_paste_32 ?_
  refine W.eq (g2 := F0 m 33 ls [.ref s2]) rfl ?_
  refine lv_astore (lv' := [(7, .ref s2), (6, .ref s3), (0, .ref h0), (1, .int 3), (2, .int b), (3, .int 2), (4, .int a), (5, .int g_)]) hx hb dX8_paste_33 hl (by decide) rfl (fun ls hl => ?_)
  refine lv_aload hx hb dX8_paste_35 (lv_at hl 1 rfl) ?_
  refine va_get (D := (dC, dI)) (ci := 5) (v := .int 0) (C := RX5) (T := TX5) (N := 4) hx hb hts inA5 hown hK hP 1 rfl rfl 1 (by decide) (hts _ w_1283) (fun _ h9 => h9) rfl dX8_paste_37 ?_
  refine lv_if_eq (tgt := 51) hx hb dX8_paste_40 (by decide) (fun c_5 => ?_) (fun c_5 => absurd (by decide) c_5)
  refine lv_bipush (v := (-6)) hx hb dX8_paste_51 (by decide) ?_
  exact W.iret (v := (-6)) hx hb hr (fun t ht hW => ⟨⟨(-6), (), rfl, rfl, trivial⟩, hS.F ht⟩) hS.2.2 dX8_paste_53
set_option maxHeartbeats 4000000 in
set_option maxRecDepth 100000 in
theorem x_paste33 (l : Launch) (dC : Nat → ClassId) (dI : Nat → Nat → Nat) (sz : Nat) (h0 : Nat) (x_tape : Nat) (x_reader : Nat) (x_current : Nat) (x_images : Nat) (x_kept : Nat) (x_slots : Nat) (x_diary : Nat) (x_base : Nat) (x_trial : Nat) (x_plan : Nat) (x_orders : Nat) (x_unanswered : Nat) (s0 : Nat) (s1 : Nat) (s2 : Nat) (s3 : Nat) (y0 : Nat) (y1 : Nat) (y2 : Nat) (y3 : Nat) (zk : ClassId) (b : Int32) (a : Int32) (g_ : Int32)  : Met l yX8_paste (.code yX8_paste cX8_paste 8 (some .int) :: ALLW) ({ frames := 1, cells := 0, slots := 0, locals := 21 }) (va_Pc [.ref h0, .int 3, .int b, .int 3, .int a, .int g_] (fun U => U.heap.size = sz ∧ va_P (dC, dI) vwCl [(h0, .inr (8, [.ref x_tape, .ref x_reader, .ref x_current, .ref x_images, .ref x_kept, .ref x_slots, .ref x_diary, .ref x_base, .ref x_trial, .ref x_plan, .ref x_orders, .ref x_unanswered, .int 0, .int 0, .int (-1)])), (x_slots, .inl (zk, 4, .inr (.inr (.inr (.inr (va_up (va_up (va_up (va_up (fun _ => none) 0 (some s0)) 1 (some s1)) 2 (some s2)) 3 (some s3))))))), (s3, .inr (5, [.ref y3, .int 0, .int 0, .int 0]))] U.heap ∧ va_K (dC, dI) vwCl [(zk, .object RX5)] U ∧ va_D (fun _ => True) [(h0, .inr (8, [.ref x_tape, .ref x_reader, .ref x_current, .ref x_images, .ref x_kept, .ref x_slots, .ref x_diary, .ref x_base, .ref x_trial, .ref x_plan, .ref x_orders, .ref x_unanswered, .int 0, .int 0, .int (-1)])), (x_slots, .inl (zk, 4, .inr (.inr (.inr (.inr (va_up (va_up (va_up (va_up (fun _ => none) 0 (some s0)) 1 (some s1)) 2 (some s2)) 3 (some s3))))))), (s3, .inr (5, [.ref y3, .int 0, .int 0, .int 0]))])) (va_Qi (fun (r : Int32) (_ : Unit) => r = (-6)) (fun (_ : Unit) (_ : State) => True) (va_A [(h0, .inr (8, [.ref x_tape, .ref x_reader, .ref x_current, .ref x_images, .ref x_kept, .ref x_slots, .ref x_diary, .ref x_base, .ref x_trial, .ref x_plan, .ref x_orders, .ref x_unanswered, .int 0, .int 0, .int (-1)])), (x_slots, .inl (zk, 4, .inr (.inr (.inr (.inr (va_up (va_up (va_up (va_up (fun _ => none) 0 (some s0)) 1 (some s1)) 2 (some s2)) 3 (some s3))))))), (s3, .inr (5, [.ref y3, .int 0, .int 0, .int 0]))] sz)) 0 0 (va_A [(h0, .inr (8, [.ref x_tape, .ref x_reader, .ref x_current, .ref x_images, .ref x_kept, .ref x_slots, .ref x_diary, .ref x_base, .ref x_trial, .ref x_plan, .ref x_orders, .ref x_unanswered, .int 0, .int 0, .int (-1)])), (x_slots, .inl (zk, 4, .inr (.inr (.inr (.inr (va_up (va_up (va_up (va_up (fun _ => none) 0 (some s0)) 1 (some s1)) 2 (some s2)) 3 (some s3))))))), (s3, .inr (5, [.ref y3, .int 0, .int 0, .int 0]))] sz) := by
  refine Met.ofW (cc := cX8_paste) (maxL := 8) (ret := (some .int)) (by decide) rfl ?_
  intro p e s m args below meth c s₁ B hml hv
  obtain ⟨rfl, hsz, hP, hK, hD0⟩ := hv
  have hx := B.exec
  have hb := B.bytes
  have hr := B.returns
  have hts0 := atoms_spec (ws := (.code yX8_paste cX8_paste 8 (some .int) :: ALLW)) B.pre
  have hts := fun (w : Cond) (h : w ∈ ALLW) => hts0 w (List.mem_cons_of_mem _ h)
  have hown : s.vm.findClass RX8 = some m.cls := findClass_of_methodNamed B.named
  have hlocks := B.notSynchronized
  subst hsz
  have hD := hD0.self (sz := s.heap.size)
  generalize hAe : va_A [(h0, .inr (8, [.ref x_tape, .ref x_reader, .ref x_current, .ref x_images, .ref x_kept, .ref x_slots, .ref x_diary, .ref x_base, .ref x_trial, .ref x_plan, .ref x_orders, .ref x_unanswered, .int 0, .int 0, .int (-1)])), (x_slots, .inl (zk, 4, .inr (.inr (.inr (.inr (va_up (va_up (va_up (va_up (fun _ => none) 0 (some s0)) 1 (some s1)) 2 (some s2)) 3 (some s3))))))), (s3, .inr (5, [.ref y3, .int 0, .int 0, .int 0]))] s.heap.size = A at hD ⊢
  have hA : ∀ q : Nat, s.heap.size ≤ q → A q := fun q h => by rw [← hAe]; exact Or.inr h
  have hS : va_S A s.heap s.heap [] := va_S.rf
  have hP : va_P (dC, dI) vwCl [(h0, .inr (8, [.ref x_tape, .ref x_reader, .ref x_current, .ref x_images, .ref x_kept, .ref x_slots, .ref x_diary, .ref x_base, .ref x_trial, .ref x_plan, .ref x_orders, .ref x_unanswered, .int 0, .int 0, .int (-1)])), (x_slots, .inl (zk, 4, .inr (.inr (.inr (.inr (va_up (va_up (va_up (va_up (fun _ => none) 0 (some s0)) 1 (some s1)) 2 (some s2)) 3 (some s3))))))), (s3, .inr (5, [.ref y3, .int 0, .int 0, .int 0]))] s.heap := hP
  have hl := lv_entry ([.ref h0, .int 3, .int b, .int 3, .int a, .int g_]) (n := 8) (Nat.le_of_ble_eq_true rfl)
  rw [lg_entry_eq]
  generalize (lg_sl ([.ref h0, .int 3, .int b, .int 3, .int a, .int g_]) ++ List.replicate (8 - (lg_sl ([.ref h0, .int 3, .int b, .int 3, .int a, .int g_])).length) Slot.unset).toArray = ls at hl ⊢
  have hl : lv_has ls 8 [(0, .ref h0), (1, .int 3), (2, .int b), (3, .int 3), (4, .int a), (5, .int g_)] := hl
  refine lv_aload_n hx hb dX8_paste_0 rfl (lv_at hl 0 rfl) ?_
  refine lv_iload_n hx hb dX8_paste_1 rfl (lv_at hl 1 rfl) ?_
  have hPc := hP.sub (ws' := [(h0, .inr (8, [.ref x_tape, .ref x_reader, .ref x_current, .ref x_images, .ref x_kept, .ref x_slots, .ref x_diary, .ref x_base, .ref x_trial, .ref x_plan, .ref x_orders, .ref x_unanswered, .int 0, .int 0, .int (-1)]))]) [0] rfl
  have hDc := hD.sub (ws' := [(h0, .inr (8, [.ref x_tape, .ref x_reader, .ref x_current, .ref x_images, .ref x_kept, .ref x_slots, .ref x_diary, .ref x_base, .ref x_trial, .ref x_plan, .ref x_orders, .ref x_unanswered, .int 0, .int 0, .int (-1)]))]) [0] (by decide) rfl
  have hKc := hK.sub (tys' := []) [] rfl
  have hFc := va_free (wc := [(h0, .inr (8, [.ref x_tape, .ref x_reader, .ref x_current, .ref x_images, .ref x_kept, .ref x_slots, .ref x_diary, .ref x_base, .ref x_trial, .ref x_plan, .ref x_orders, .ref x_unanswered, .int 0, .int 0, .int (-1)]))]) hD hS hA [0] rfl
  refine va_calli (va_runV (As := [.int 3]) (rest := []) ⟨hx, hb, hml, hown, hts⟩ (c_isSlot3 l dC dI s.heap.size h0 x_tape x_reader x_current x_images x_kept x_slots x_diary x_base x_trial x_plan x_orders x_unanswered ) (cwV 1 hts (goodV w_1288 w_1289 w_1290 w_2 w_1291) rfl rfl rfl hdV_X8_isSlot ⟨Nat.le_of_ble_eq_true rfl, Nat.le_of_ble_eq_true rfl⟩) ⟨fun a U g mk q => by obtain ⟨q0, q1, qP, qK, qD⟩ := q; exact ⟨q0, q1, qP, va_K.moved (u := U) (U := U.calling g mk a) (Vm.Alike.refl U.vm) qK, qD⟩, va_recv hKc hPc (ci := 8) (q0 := 0) rfl rfl, fun U hU hW => ⟨rfl, by rw [hU], by rw [hU]; exact hPc, va_K.moved hW.alike hKc, hDc.weaken (fun _ _ _ _ => trivial)⟩⟩ rfl rfl hl.1 rfl (lv_room (Nat.le_of_ble_eq_true rfl)) dX8_paste_2 ⟨Nat.le_of_ble_eq_true rfl, Nat.le_of_ble_eq_true rfl⟩) hS (fun q _ h => hFc q h) hFc (fun r_1 u t H1 locs ht hvm hw hB hz1 hk1 hS => ?_)
  obtain ⟨hP1, hK1, hD1⟩ := hB
  rw [ht] at hP1
  have hK1 := va_K.moved hvm.symm hK1
  obtain ⟨hP, hD⟩ := va_join (wr := [(x_slots, .inl (zk, 4, .inr (.inr (.inr (.inr (va_up (va_up (va_up (va_up (fun _ => none) 0 (some s0)) 1 (some s1)) 2 (some s2)) 3 (some s3))))))), (s3, .inr (5, [.ref y3, .int 0, .int 0, .int 0]))]) (w1 := [(h0, .inr (8, [.ref x_tape, .ref x_reader, .ref x_current, .ref x_images, .ref x_kept, .ref x_slots, .ref x_diary, .ref x_base, .ref x_trial, .ref x_plan, .ref x_orders, .ref x_unanswered, .int 0, .int 0, .int (-1)]))]) hP hD [0] [1, 2] rfl rfl (by decide) (by decide) hk1 hFc hP1 hD1
  clear hPc hDc hKc hFc
  generalize H1 = H at hP hS ⊢
  have hP : va_P (dC, dI) vwCl [(x_slots, .inl (zk, 4, .inr (.inr (.inr (.inr (va_up (va_up (va_up (va_up (fun _ => none) 0 (some s0)) 1 (some s1)) 2 (some s2)) 3 (some s3))))))), (s3, .inr (5, [.ref y3, .int 0, .int 0, .int 0])), (h0, .inr (8, [.ref x_tape, .ref x_reader, .ref x_current, .ref x_images, .ref x_kept, .ref x_slots, .ref x_diary, .ref x_base, .ref x_trial, .ref x_plan, .ref x_orders, .ref x_unanswered, .int 0, .int 0, .int (-1)]))] H := hP
  have hD : va_D A [(x_slots, .inl (zk, 4, .inr (.inr (.inr (.inr (va_up (va_up (va_up (va_up (fun _ => none) 0 (some s0)) 1 (some s1)) 2 (some s2)) 3 (some s3))))))), (s3, .inr (5, [.ref y3, .int 0, .int 0, .int 0])), (h0, .inr (8, [.ref x_tape, .ref x_reader, .ref x_current, .ref x_images, .ref x_kept, .ref x_slots, .ref x_diary, .ref x_base, .ref x_trial, .ref x_plan, .ref x_orders, .ref x_unanswered, .int 0, .int 0, .int (-1)]))] := hD
  have hw : r_1 = 1 := hw
  subst hw
  refine lv_if_eq (tgt := 16) hx hb dX8_paste_5 (by decide) (fun c_2 => absurd c_2 (by decide)) (fun c_2 => ?_)
  refine lv_aload_n hx hb dX8_paste_8 rfl (lv_at hl 0 rfl) ?_
  refine lv_iload_n hx hb dX8_paste_9 rfl (lv_at hl 3 rfl) ?_
  have hPc := hP.sub (ws' := [(h0, .inr (8, [.ref x_tape, .ref x_reader, .ref x_current, .ref x_images, .ref x_kept, .ref x_slots, .ref x_diary, .ref x_base, .ref x_trial, .ref x_plan, .ref x_orders, .ref x_unanswered, .int 0, .int 0, .int (-1)]))]) [2] rfl
  have hDc := hD.sub (ws' := [(h0, .inr (8, [.ref x_tape, .ref x_reader, .ref x_current, .ref x_images, .ref x_kept, .ref x_slots, .ref x_diary, .ref x_base, .ref x_trial, .ref x_plan, .ref x_orders, .ref x_unanswered, .int 0, .int 0, .int (-1)]))]) [2] (by decide) rfl
  have hKc := hK.sub (tys' := []) [] rfl
  have hFc := va_free (wc := [(h0, .inr (8, [.ref x_tape, .ref x_reader, .ref x_current, .ref x_images, .ref x_kept, .ref x_slots, .ref x_diary, .ref x_base, .ref x_trial, .ref x_plan, .ref x_orders, .ref x_unanswered, .int 0, .int 0, .int (-1)]))]) hD hS hA [2] rfl
  refine va_calli (va_runV (As := [.int 3]) (rest := []) ⟨hx, hb, hml, hown, hts⟩ (c_isSlot3 l dC dI H.size h0 x_tape x_reader x_current x_images x_kept x_slots x_diary x_base x_trial x_plan x_orders x_unanswered ) (cwV 1 hts (goodV w_1288 w_1289 w_1290 w_2 w_1291) rfl rfl rfl hdV_X8_isSlot ⟨Nat.le_of_ble_eq_true rfl, Nat.le_of_ble_eq_true rfl⟩) ⟨fun a U g mk q => by obtain ⟨q0, q1, qP, qK, qD⟩ := q; exact ⟨q0, q1, qP, va_K.moved (u := U) (U := U.calling g mk a) (Vm.Alike.refl U.vm) qK, qD⟩, va_recv hKc hPc (ci := 8) (q0 := 0) rfl rfl, fun U hU hW => ⟨rfl, by rw [hU], by rw [hU]; exact hPc, va_K.moved hW.alike hKc, hDc.weaken (fun _ _ _ _ => trivial)⟩⟩ rfl rfl hl.1 rfl (lv_room (Nat.le_of_ble_eq_true rfl)) dX8_paste_10 ⟨Nat.le_of_ble_eq_true rfl, Nat.le_of_ble_eq_true rfl⟩) hS (fun q _ h => hFc q h) hFc (fun r_3 u t H1 locs ht hvm hw hB hz1 hk1 hS => ?_)
  obtain ⟨hP1, hK1, hD1⟩ := hB
  rw [ht] at hP1
  have hK1 := va_K.moved hvm.symm hK1
  obtain ⟨hP, hD⟩ := va_join (wr := [(x_slots, .inl (zk, 4, .inr (.inr (.inr (.inr (va_up (va_up (va_up (va_up (fun _ => none) 0 (some s0)) 1 (some s1)) 2 (some s2)) 3 (some s3))))))), (s3, .inr (5, [.ref y3, .int 0, .int 0, .int 0]))]) (w1 := [(h0, .inr (8, [.ref x_tape, .ref x_reader, .ref x_current, .ref x_images, .ref x_kept, .ref x_slots, .ref x_diary, .ref x_base, .ref x_trial, .ref x_plan, .ref x_orders, .ref x_unanswered, .int 0, .int 0, .int (-1)]))]) hP hD [2] [0, 1] rfl rfl (by decide) (by decide) hk1 hFc hP1 hD1
  clear hPc hDc hKc hFc
  generalize H1 = H at hP hS ⊢
  have hP : va_P (dC, dI) vwCl [(x_slots, .inl (zk, 4, .inr (.inr (.inr (.inr (va_up (va_up (va_up (va_up (fun _ => none) 0 (some s0)) 1 (some s1)) 2 (some s2)) 3 (some s3))))))), (s3, .inr (5, [.ref y3, .int 0, .int 0, .int 0])), (h0, .inr (8, [.ref x_tape, .ref x_reader, .ref x_current, .ref x_images, .ref x_kept, .ref x_slots, .ref x_diary, .ref x_base, .ref x_trial, .ref x_plan, .ref x_orders, .ref x_unanswered, .int 0, .int 0, .int (-1)]))] H := hP
  have hD : va_D A [(x_slots, .inl (zk, 4, .inr (.inr (.inr (.inr (va_up (va_up (va_up (va_up (fun _ => none) 0 (some s0)) 1 (some s1)) 2 (some s2)) 3 (some s3))))))), (s3, .inr (5, [.ref y3, .int 0, .int 0, .int 0])), (h0, .inr (8, [.ref x_tape, .ref x_reader, .ref x_current, .ref x_images, .ref x_kept, .ref x_slots, .ref x_diary, .ref x_base, .ref x_trial, .ref x_plan, .ref x_orders, .ref x_unanswered, .int 0, .int 0, .int (-1)]))] := hD
  have hw : r_3 = 1 := hw
  subst hw
  refine lv_if_ne (tgt := 19) hx hb dX8_paste_13 (by decide) (fun c_4 => ?_) (fun c_4 => absurd c_4 (by decide))
  refine lv_aload_n hx hb dX8_paste_19 rfl (lv_at hl 0 rfl) ?_
  refine va_get (D := (dC, dI)) (ci := 8) (v := .ref x_slots) (C := RX8) (T := TX8) (N := 15) hx hb hts inA8 hown hK hP 2 rfl rfl 5 (by decide) (hts _ w_29) (fun _ h9 => h9) rfl dX8_paste_20 ?_
  refine lv_iload_n hx hb dX8_paste_23 rfl (lv_at hl 1 rfl) ?_
  refine va_aldq hx hb hK hP 0 0 rfl rfl (show vp_in 3 4 from (by unfold vp_in; decide)) dX8_paste_24 ?_
  refine W.eq (g2 := F0 m 25 ls [.ref s3]) rfl ?_
  refine lv_astore (lv' := [(6, .ref s3), (0, .ref h0), (1, .int 3), (2, .int b), (3, .int 3), (4, .int a), (5, .int g_)]) hx hb dX8_paste_25 hl (by decide) rfl (fun ls hl => ?_)
  refine lv_aload_n hx hb dX8_paste_27 rfl (lv_at hl 1 rfl) ?_
  refine va_get (D := (dC, dI)) (ci := 8) (v := .ref x_slots) (C := RX8) (T := TX8) (N := 15) hx hb hts inA8 hown hK hP 2 rfl rfl 5 (by decide) (hts _ w_29) (fun _ h9 => h9) rfl dX8_paste_28 ?_
  refine lv_iload_n hx hb dX8_paste_31 rfl (lv_at hl 4 rfl) ?_
  refine va_aldq hx hb hK hP 0 0 rfl rfl (show vp_in 3 4 from (by unfold vp_in; decide)) dX8_paste_32 ?_
  refine W.eq (g2 := F0 m 33 ls [.ref s3]) rfl ?_
  refine lv_astore (lv' := [(7, .ref s3), (6, .ref s3), (0, .ref h0), (1, .int 3), (2, .int b), (3, .int 3), (4, .int a), (5, .int g_)]) hx hb dX8_paste_33 hl (by decide) rfl (fun ls hl => ?_)
  refine lv_aload hx hb dX8_paste_35 (lv_at hl 1 rfl) ?_
  refine va_get (D := (dC, dI)) (ci := 5) (v := .int 0) (C := RX5) (T := TX5) (N := 4) hx hb hts inA5 hown hK hP 1 rfl rfl 1 (by decide) (hts _ w_1283) (fun _ h9 => h9) rfl dX8_paste_37 ?_
  refine lv_if_eq (tgt := 51) hx hb dX8_paste_40 (by decide) (fun c_5 => ?_) (fun c_5 => absurd (by decide) c_5)
  refine lv_bipush (v := (-6)) hx hb dX8_paste_51 (by decide) ?_
  exact W.iret (v := (-6)) hx hb hr (fun t ht hW => ⟨⟨(-6), (), rfl, rfl, trivial⟩, hS.F ht⟩) hS.2.2 dX8_paste_53
