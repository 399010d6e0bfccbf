set_option maxHeartbeats 4000000 in
set_option maxRecDepth 100000 in
theorem c_append4 (l : Launch) (dC : Nat → ClassId) (dI : Nat → Nat → Nat) (sz : Nat) (h0 : Nat) (tb : Nat) (bk : ClassId) (bf : Nat → Int32) (a : Int32)  : Met l yX6_append (.code yX6_append cX6_append 3 none :: ALLW) ({ frames := 0, cells := 0, slots := 0, locals := 0 }) (va_Pc [.ref h0, .int a] (fun U => U.heap.size = sz ∧ va_P (dC, dI) vwCl [(h0, .inr (6, [.ref tb, .int 4])), (tb, .inl (bk, 2400, .inl bf))] U.heap ∧ va_K (dC, dI) vwCl [(bk, .byte)] U ∧ va_D (fun _ => True) [(h0, .inr (6, [.ref tb, .int 4])), (tb, .inl (bk, 2400, .inl bf))])) (va_Qv (fun _ : Unit => True) (fun (_ : Unit) (t : State) => ∃ (f_23 : Nat → Int32), va_P (dC, dI) vwCl [(h0, .inr (6, [.ref tb, .int 8])), (tb, .inl (bk, 2400, .inl f_23))] t.heap ∧ va_K (dC, dI) vwCl [] t ∧ va_D (va_A [(h0, .inr (6, [.ref tb, .int 4])), (tb, .inl (bk, 2400, .inl bf))] sz) [(h0, .inr (6, [.ref tb, .int 8])), (tb, .inl (bk, 2400, .inl f_23))]) (va_A [(h0, .inr (6, [.ref tb, .int 4])), (tb, .inl (bk, 2400, .inl bf))] sz)) 0 0 (va_A [(h0, .inr (6, [.ref tb, .int 4])), (tb, .inl (bk, 2400, .inl bf))] sz) := by
  refine Met.ofW (cc := cX6_append) (maxL := 3) (ret := none) (by decide) rfl ?_
  intro p e s m args below meth c s₁ B hml hv
  obtain ⟨rfl, hsz, hP, hK, hD0⟩ := hv
  have hx := B.exec
  have hb := B.bytes
  have hr := B.returns
  have hts0 := atoms_spec (ws := (.code yX6_append cX6_append 3 none :: ALLW)) B.pre
  have hts := fun (w : Cond) (h : w ∈ ALLW) => hts0 w (List.mem_cons_of_mem _ h)
  have hown : s.vm.findClass RX6 = some m.cls := findClass_of_methodNamed B.named
  have hlocks := B.notSynchronized
  subst hsz
  have hD := hD0.self (sz := s.heap.size)
  generalize hAe : va_A [(h0, .inr (6, [.ref tb, .int 4])), (tb, .inl (bk, 2400, .inl bf))] s.heap.size = A at hD ⊢
  have hA : ∀ q : Nat, s.heap.size ≤ q → A q := fun q h => by rw [← hAe]; exact Or.inr h
  have hS : va_S A s.heap s.heap [] := va_S.rf
  have hP : va_P (dC, dI) vwCl [(h0, .inr (6, [.ref tb, .int 4])), (tb, .inl (bk, 2400, .inl bf))] s.heap := hP
  have hl := lv_entry ([.ref h0, .int a]) (n := 3) (Nat.le_of_ble_eq_true rfl)
  rw [lg_entry_eq]
  generalize (lg_sl ([.ref h0, .int a]) ++ List.replicate (3 - (lg_sl ([.ref h0, .int a])).length) Slot.unset).toArray = ls at hl ⊢
  have hl : lv_has ls 3 [(0, .ref h0), (1, .int a)] := hl
  refine lv_bipush (v := 24) hx hb dX6_append_0 (by decide) ?_
  refine lv_istore_n (lv' := [(2, .int 24), (0, .ref h0), (1, .int a)]) hx hb dX6_append_2 rfl hl (by decide) rfl (fun ls hl => ?_)
  refine lv_iload_n hx hb dX6_append_3 rfl (lv_at hl 0 rfl) ?_
  refine lv_if_lt (tgt := 46) hx hb dX6_append_4 (by decide) (fun c_1 => absurd c_1 (by decide)) (fun c_1 => ?_)
  refine lv_aload_n hx hb dX6_append_7 rfl (lv_at hl 1 rfl) ?_
  refine va_get (D := (dC, dI)) (ci := 6) (v := .int 4) (C := RX6) (T := TX6) (N := 2) hx hb hts inA6 hown hK hP 0 rfl rfl 1 (by decide) (hts _ w_59) (fun _ h9 => h9) rfl dX6_append_8 ?_
  refine lv_sipush (v := 2400) hx hb dX6_append_11 (by decide) ?_
  refine lv_icmp_ge (tgt := 46) hx hb dX6_append_14 (by decide) (fun c_2 => absurd c_2 (by decide)) (fun c_2 => ?_)
  refine lv_aload_n hx hb dX6_append_17 rfl (lv_at hl 1 rfl) ?_
  refine va_get (D := (dC, dI)) (ci := 6) (v := .ref tb) (C := RX6) (T := TX6) (N := 2) hx hb hts inA6 hown hK hP 0 rfl rfl 0 (by decide) (hts _ w_58) (fun _ h9 => h9) rfl dX6_append_18 ?_
  refine lv_aload_n hx hb dX6_append_21 rfl (lv_at hl 1 rfl) ?_
  refine va_get (D := (dC, dI)) (ci := 6) (v := .int 4) (C := RX6) (T := TX6) (N := 2) hx hb hts inA6 hown hK hP 0 rfl rfl 1 (by decide) (hts _ w_59) (fun _ h9 => h9) rfl dX6_append_22 ?_
  refine lv_iload_n hx hb dX6_append_25 rfl (lv_at hl 2 rfl) ?_
  refine lv_iload_n hx hb dX6_append_26 rfl (lv_at hl 0 rfl) ?_
  refine lv_ishr hx hb dX6_append_27 ?_
  refine lv_topi (fun x_3 ex_3 => ?_)
  obtain ⟨y_4, ey_4⟩ : ∃ y : Int32, x_3.toInt8.toInt32 = y := ⟨_, rfl⟩
  refine lv_i2b (v := y_4) hx hb dX6_append_28 ey_4 ?_
  refine va_bast hx hb hK hP hD hS 1 0 rfl rfl (show vp_in 4 2400 from (by unfold vp_in; decide)) dX6_append_29 (fun H locs hP hD hS => ?_)
  rw [show (4 : Int32).toNatClampNeg = 4 from by decide] at hP hD
  generalize upd (bf) 4 (vp_nar .byte y_4) = f_5 at hP hD
  have hP : va_P (dC, dI) vwCl [(h0, .inr (6, [.ref tb, .int 4])), (tb, .inl (bk, 2400, .inl f_5))] H := hP
  have hD : va_D A [(h0, .inr (6, [.ref tb, .int 4])), (tb, .inl (bk, 2400, .inl f_5))] := hD
  refine lv_aload_n hx hb dX6_append_30 rfl (lv_at hl 1 rfl) ?_
  refine lv_dup hx hb dX6_append_31 rfl ?_
  refine va_get (D := (dC, dI)) (ci := 6) (v := .int 4) (C := RX6) (T := TX6) (N := 2) hx hb hts inA6 hown hK hP 0 rfl rfl 1 (by decide) (hts _ w_59) (fun _ h9 => h9) rfl dX6_append_32 ?_
  refine lv_iconst (v := 1) hx hb dX6_append_35 (by decide) ?_
  refine lv_iadd hx hb dX6_append_36 ?_
  refine lv_topi (fun x_6 ex_6 => ?_)
  obtain rfl : x_6 = 5 := ex_6.trans (by decide +kernel)
  refine va_put (D := (dC, dI)) (ci := 6) (v := .int 5) (ty := tyX6 1) (C := RX6) (T := TX6) (N := 2) hx hb hts inA6 tyX6 tyX6_ok nmX6 hown hK hP hD hS 0 rfl rfl 1 (by decide) (hts _ w_59) (fun _ h9 => h9) rfl (tyX6_ok 1 (by decide)) rfl rfl (Nat.le_of_ble_eq_true rfl) dX6_append_37 (fun H locs hP hD hS => ?_)
  have hP : va_P (dC, dI) vwCl [(h0, .inr (6, [.ref tb, .int 5])), (tb, .inl (bk, 2400, .inl f_5))] H := hP
  have hD : va_D A [(h0, .inr (6, [.ref tb, .int 5])), (tb, .inl (bk, 2400, .inl f_5))] := hD
  refine lv_iinc (v := 16) (lv' := [(2, .int 16), (0, .ref h0), (1, .int a)]) hx hb dX6_append_40 hl (k := 0) rfl (by decide) (by decide) rfl (fun ls hl => ?_)
  refine lv_goto (tgt := 3) hx hb dX6_append_43 (by decide) ?_
  refine lv_iload_n hx hb dX6_append_3 rfl (lv_at hl 0 rfl) ?_
  refine lv_if_lt (tgt := 46) hx hb dX6_append_4 (by decide) (fun c_7 => absurd c_7 (by decide)) (fun c_7 => ?_)
  refine lv_aload_n hx hb dX6_append_7 rfl (lv_at hl 1 rfl) ?_
  refine va_get (D := (dC, dI)) (ci := 6) (v := .int 5) (C := RX6) (T := TX6) (N := 2) hx hb hts inA6 hown hK hP 0 rfl rfl 1 (by decide) (hts _ w_59) (fun _ h9 => h9) rfl dX6_append_8 ?_
  refine lv_sipush (v := 2400) hx hb dX6_append_11 (by decide) ?_
  refine lv_icmp_ge (tgt := 46) hx hb dX6_append_14 (by decide) (fun c_8 => absurd c_8 (by decide)) (fun c_8 => ?_)
  refine lv_aload_n hx hb dX6_append_17 rfl (lv_at hl 1 rfl) ?_
  refine va_get (D := (dC, dI)) (ci := 6) (v := .ref tb) (C := RX6) (T := TX6) (N := 2) hx hb hts inA6 hown hK hP 0 rfl rfl 0 (by decide) (hts _ w_58) (fun _ h9 => h9) rfl dX6_append_18 ?_
  refine lv_aload_n hx hb dX6_append_21 rfl (lv_at hl 1 rfl) ?_
  refine va_get (D := (dC, dI)) (ci := 6) (v := .int 5) (C := RX6) (T := TX6) (N := 2) hx hb hts inA6 hown hK hP 0 rfl rfl 1 (by decide) (hts _ w_59) (fun _ h9 => h9) rfl dX6_append_22 ?_
  refine lv_iload_n hx hb dX6_append_25 rfl (lv_at hl 2 rfl) ?_
  refine lv_iload_n hx hb dX6_append_26 rfl (lv_at hl 0 rfl) ?_
  refine lv_ishr hx hb dX6_append_27 ?_
  refine lv_topi (fun x_9 ex_9 => ?_)
  obtain ⟨y_10, ey_10⟩ : ∃ y : Int32, x_9.toInt8.toInt32 = y := ⟨_, rfl⟩
  refine lv_i2b (v := y_10) hx hb dX6_append_28 ey_10 ?_
  refine va_bast hx hb hK hP hD hS 1 0 rfl rfl (show vp_in 5 2400 from (by unfold vp_in; decide)) dX6_append_29 (fun H locs hP hD hS => ?_)
  rw [show (5 : Int32).toNatClampNeg = 5 from by decide] at hP hD
  generalize upd (f_5) 5 (vp_nar .byte y_10) = f_11 at hP hD
  have hP : va_P (dC, dI) vwCl [(h0, .inr (6, [.ref tb, .int 5])), (tb, .inl (bk, 2400, .inl f_11))] H := hP
  have hD : va_D A [(h0, .inr (6, [.ref tb, .int 5])), (tb, .inl (bk, 2400, .inl f_11))] := hD
  refine lv_aload_n hx hb dX6_append_30 rfl (lv_at hl 1 rfl) ?_
  refine lv_dup hx hb dX6_append_31 rfl ?_
  refine va_get (D := (dC, dI)) (ci := 6) (v := .int 5) (C := RX6) (T := TX6) (N := 2) hx hb hts inA6 hown hK hP 0 rfl rfl 1 (by decide) (hts _ w_59) (fun _ h9 => h9) rfl dX6_append_32 ?_
  refine lv_iconst (v := 1) hx hb dX6_append_35 (by decide) ?_
  refine lv_iadd hx hb dX6_append_36 ?_
  refine lv_topi (fun x_12 ex_12 => ?_)
  obtain rfl : x_12 = 6 := ex_12.trans (by decide +kernel)
  refine va_put (D := (dC, dI)) (ci := 6) (v := .int 6) (ty := tyX6 1) (C := RX6) (T := TX6) (N := 2) hx hb hts inA6 tyX6 tyX6_ok nmX6 hown hK hP hD hS 0 rfl rfl 1 (by decide) (hts _ w_59) (fun _ h9 => h9) rfl (tyX6_ok 1 (by decide)) rfl rfl (Nat.le_of_ble_eq_true rfl) dX6_append_37 (fun H locs hP hD hS => ?_)
  have hP : va_P (dC, dI) vwCl [(h0, .inr (6, [.ref tb, .int 6])), (tb, .inl (bk, 2400, .inl f_11))] H := hP
  have hD : va_D A [(h0, .inr (6, [.ref tb, .int 6])), (tb, .inl (bk, 2400, .inl f_11))] := hD
  refine lv_iinc (v := 8) (lv' := [(2, .int 8), (0, .ref h0), (1, .int a)]) hx hb dX6_append_40 hl (k := 0) rfl (by decide) (by decide) rfl (fun ls hl => ?_)
  refine lv_goto (tgt := 3) hx hb dX6_append_43 (by decide) ?_
  refine lv_iload_n hx hb dX6_append_3 rfl (lv_at hl 0 rfl) ?_
  refine lv_if_lt (tgt := 46) hx hb dX6_append_4 (by decide) (fun c_13 => absurd c_13 (by decide)) (fun c_13 => ?_)
  refine lv_aload_n hx hb dX6_append_7 rfl (lv_at hl 1 rfl) ?_
  refine va_get (D := (dC, dI)) (ci := 6) (v := .int 6) (C := RX6) (T := TX6) (N := 2) hx hb hts inA6 hown hK hP 0 rfl rfl 1 (by decide) (hts _ w_59) (fun _ h9 => h9) rfl dX6_append_8 ?_
  refine lv_sipush (v := 2400) hx hb dX6_append_11 (by decide) ?_
  refine lv_icmp_ge (tgt := 46) hx hb dX6_append_14 (by decide) (fun c_14 => absurd c_14 (by decide)) (fun c_14 => ?_)
  refine lv_aload_n hx hb dX6_append_17 rfl (lv_at hl 1 rfl) ?_
  refine va_get (D := (dC, dI)) (ci := 6) (v := .ref tb) (C := RX6) (T := TX6) (N := 2) hx hb hts inA6 hown hK hP 0 rfl rfl 0 (by decide) (hts _ w_58) (fun _ h9 => h9) rfl dX6_append_18 ?_
  refine lv_aload_n hx hb dX6_append_21 rfl (lv_at hl 1 rfl) ?_
  refine va_get (D := (dC, dI)) (ci := 6) (v := .int 6) (C := RX6) (T := TX6) (N := 2) hx hb hts inA6 hown hK hP 0 rfl rfl 1 (by decide) (hts _ w_59) (fun _ h9 => h9) rfl dX6_append_22 ?_
  refine lv_iload_n hx hb dX6_append_25 rfl (lv_at hl 2 rfl) ?_
  refine lv_iload_n hx hb dX6_append_26 rfl (lv_at hl 0 rfl) ?_
  refine lv_ishr hx hb dX6_append_27 ?_
  refine lv_topi (fun x_15 ex_15 => ?_)
  obtain ⟨y_16, ey_16⟩ : ∃ y : Int32, x_15.toInt8.toInt32 = y := ⟨_, rfl⟩
  refine lv_i2b (v := y_16) hx hb dX6_append_28 ey_16 ?_
  refine va_bast hx hb hK hP hD hS 1 0 rfl rfl (show vp_in 6 2400 from (by unfold vp_in; decide)) dX6_append_29 (fun H locs hP hD hS => ?_)
  rw [show (6 : Int32).toNatClampNeg = 6 from by decide] at hP hD
  generalize upd (f_11) 6 (vp_nar .byte y_16) = f_17 at hP hD
  have hP : va_P (dC, dI) vwCl [(h0, .inr (6, [.ref tb, .int 6])), (tb, .inl (bk, 2400, .inl f_17))] H := hP
  have hD : va_D A [(h0, .inr (6, [.ref tb, .int 6])), (tb, .inl (bk, 2400, .inl f_17))] := hD
  refine lv_aload_n hx hb dX6_append_30 rfl (lv_at hl 1 rfl) ?_
  refine lv_dup hx hb dX6_append_31 rfl ?_
  refine va_get (D := (dC, dI)) (ci := 6) (v := .int 6) (C := RX6) (T := TX6) (N := 2) hx hb hts inA6 hown hK hP 0 rfl rfl 1 (by decide) (hts _ w_59) (fun _ h9 => h9) rfl dX6_append_32 ?_
  refine lv_iconst (v := 1) hx hb dX6_append_35 (by decide) ?_
  refine lv_iadd hx hb dX6_append_36 ?_
  refine lv_topi (fun x_18 ex_18 => ?_)
  obtain rfl : x_18 = 7 := ex_18.trans (by decide +kernel)
  refine va_put (D := (dC, dI)) (ci := 6) (v := .int 7) (ty := tyX6 1) (C := RX6) (T := TX6) (N := 2) hx hb hts inA6 tyX6 tyX6_ok nmX6 hown hK hP hD hS 0 rfl rfl 1 (by decide) (hts _ w_59) (fun _ h9 => h9) rfl (tyX6_ok 1 (by decide)) rfl rfl (Nat.le_of_ble_eq_true rfl) dX6_append_37 (fun H locs hP hD hS => ?_)
  have hP : va_P (dC, dI) vwCl [(h0, .inr (6, [.ref tb, .int 7])), (tb, .inl (bk, 2400, .inl f_17))] H := hP
  have hD : va_D A [(h0, .inr (6, [.ref tb, .int 7])), (tb, .inl (bk, 2400, .inl f_17))] := hD
  refine lv_iinc (v := 0) (lv' := [(2, .int 0), (0, .ref h0), (1, .int a)]) hx hb dX6_append_40 hl (k := 0) rfl (by decide) (by decide) rfl (fun ls hl => ?_)
  refine lv_goto (tgt := 3) hx hb dX6_append_43 (by decide) ?_
  refine lv_iload_n hx hb dX6_append_3 rfl (lv_at hl 0 rfl) ?_
  refine lv_if_lt (tgt := 46) hx hb dX6_append_4 (by decide) (fun c_19 => absurd c_19 (by decide)) (fun c_19 => ?_)
  refine lv_aload_n hx hb dX6_append_7 rfl (lv_at hl 1 rfl) ?_
  refine va_get (D := (dC, dI)) (ci := 6) (v := .int 7) (C := RX6) (T := TX6) (N := 2) hx hb hts inA6 hown hK hP 0 rfl rfl 1 (by decide) (hts _ w_59) (fun _ h9 => h9) rfl dX6_append_8 ?_
  refine lv_sipush (v := 2400) hx hb dX6_append_11 (by decide) ?_
  refine lv_icmp_ge (tgt := 46) hx hb dX6_append_14 (by decide) (fun c_20 => absurd c_20 (by decide)) (fun c_20 => ?_)
  refine lv_aload_n hx hb dX6_append_17 rfl (lv_at hl 1 rfl) ?_
  refine va_get (D := (dC, dI)) (ci := 6) (v := .ref tb) (C := RX6) (T := TX6) (N := 2) hx hb hts inA6 hown hK hP 0 rfl rfl 0 (by decide) (hts _ w_58) (fun _ h9 => h9) rfl dX6_append_18 ?_
  refine lv_aload_n hx hb dX6_append_21 rfl (lv_at hl 1 rfl) ?_
  refine va_get (D := (dC, dI)) (ci := 6) (v := .int 7) (C := RX6) (T := TX6) (N := 2) hx hb hts inA6 hown hK hP 0 rfl rfl 1 (by decide) (hts _ w_59) (fun _ h9 => h9) rfl dX6_append_22 ?_
  refine lv_iload_n hx hb dX6_append_25 rfl (lv_at hl 2 rfl) ?_
  refine lv_iload_n hx hb dX6_append_26 rfl (lv_at hl 0 rfl) ?_
  refine lv_ishr hx hb dX6_append_27 ?_
  refine lv_topi (fun x_21 ex_21 => ?_)
  obtain ⟨y_22, ey_22⟩ : ∃ y : Int32, x_21.toInt8.toInt32 = y := ⟨_, rfl⟩
  refine lv_i2b (v := y_22) hx hb dX6_append_28 ey_22 ?_
  refine va_bast hx hb hK hP hD hS 1 0 rfl rfl (show vp_in 7 2400 from (by unfold vp_in; decide)) dX6_append_29 (fun H locs hP hD hS => ?_)
  rw [show (7 : Int32).toNatClampNeg = 7 from by decide] at hP hD
  generalize upd (f_17) 7 (vp_nar .byte y_22) = f_23 at hP hD
  have hP : va_P (dC, dI) vwCl [(h0, .inr (6, [.ref tb, .int 7])), (tb, .inl (bk, 2400, .inl f_23))] H := hP
  have hD : va_D A [(h0, .inr (6, [.ref tb, .int 7])), (tb, .inl (bk, 2400, .inl f_23))] := hD
  refine lv_aload_n hx hb dX6_append_30 rfl (lv_at hl 1 rfl) ?_
  refine lv_dup hx hb dX6_append_31 rfl ?_
  refine va_get (D := (dC, dI)) (ci := 6) (v := .int 7) (C := RX6) (T := TX6) (N := 2) hx hb hts inA6 hown hK hP 0 rfl rfl 1 (by decide) (hts _ w_59) (fun _ h9 => h9) rfl dX6_append_32 ?_
  refine lv_iconst (v := 1) hx hb dX6_append_35 (by decide) ?_
  refine lv_iadd hx hb dX6_append_36 ?_
  refine lv_topi (fun x_24 ex_24 => ?_)
  obtain rfl : x_24 = 8 := ex_24.trans (by decide +kernel)
  refine va_put (D := (dC, dI)) (ci := 6) (v := .int 8) (ty := tyX6 1) (C := RX6) (T := TX6) (N := 2) hx hb hts inA6 tyX6 tyX6_ok nmX6 hown hK hP hD hS 0 rfl rfl 1 (by decide) (hts _ w_59) (fun _ h9 => h9) rfl (tyX6_ok 1 (by decide)) rfl rfl (Nat.le_of_ble_eq_true rfl) dX6_append_37 (fun H locs hP hD hS => ?_)
  have hP : va_P (dC, dI) vwCl [(h0, .inr (6, [.ref tb, .int 8])), (tb, .inl (bk, 2400, .inl f_23))] H := hP
  have hD : va_D A [(h0, .inr (6, [.ref tb, .int 8])), (tb, .inl (bk, 2400, .inl f_23))] := hD
  refine lv_iinc (v := (-8)) (lv' := [(2, .int (-8)), (0, .ref h0), (1, .int a)]) hx hb dX6_append_40 hl (k := 0) rfl (by decide) (by decide) rfl (fun ls hl => ?_)
  refine lv_goto (tgt := 3) hx hb dX6_append_43 (by decide) ?_
  refine lv_iload_n hx hb dX6_append_3 rfl (lv_at hl 0 rfl) ?_
  refine lv_if_lt (tgt := 46) hx hb dX6_append_4 (by decide) (fun c_25 => ?_) (fun c_25 => absurd (by decide) c_25)
  have hP9 := hP.sub (ws' := [(h0, .inr (6, [.ref tb, .int 8])), (tb, .inl (bk, 2400, .inl f_23))]) [0, 1] rfl
  have hD9 := hD.sub (ws' := [(h0, .inr (6, [.ref tb, .int 8])), (tb, .inl (bk, 2400, .inl f_23))]) [0, 1] (by decide) rfl
  have hK9 := hK.sub (tys' := []) [] rfl
  exact W.vret hx hb hr (fun t ht hW => ⟨⟨(), rfl, trivial, f_23, by rw [ht]; exact hP9, va_K.moved hW.alike hK9, hD9⟩, hS.F ht⟩) hS.2.2 dX6_append_46
set_option maxHeartbeats 4000000 in
set_option maxRecDepth 100000 in
theorem c_append8 (l : Launch) (dC : Nat → ClassId) (dI : Nat → Nat → Nat) (sz : Nat) (h0 : Nat) (tb : Nat) (bk : ClassId) (bf : Nat → Int32) (a : Int32)  : Met l yX6_append (.code yX6_append cX6_append 3 none :: ALLW) ({ frames := 0, cells := 0, slots := 0, locals := 0 }) (va_Pc [.ref h0, .int a] (fun U => U.heap.size = sz ∧ va_P (dC, dI) vwCl [(h0, .inr (6, [.ref tb, .int 8])), (tb, .inl (bk, 2400, .inl bf))] U.heap ∧ va_K (dC, dI) vwCl [(bk, .byte)] U ∧ va_D (fun _ => True) [(h0, .inr (6, [.ref tb, .int 8])), (tb, .inl (bk, 2400, .inl bf))])) (va_Qv (fun _ : Unit => True) (fun (_ : Unit) (t : State) => ∃ (f_23 : Nat → Int32), va_P (dC, dI) vwCl [(h0, .inr (6, [.ref tb, .int 12])), (tb, .inl (bk, 2400, .inl f_23))] t.heap ∧ va_K (dC, dI) vwCl [] t ∧ va_D (va_A [(h0, .inr (6, [.ref tb, .int 8])), (tb, .inl (bk, 2400, .inl bf))] sz) [(h0, .inr (6, [.ref tb, .int 12])), (tb, .inl (bk, 2400, .inl f_23))]) (va_A [(h0, .inr (6, [.ref tb, .int 8])), (tb, .inl (bk, 2400, .inl bf))] sz)) 0 0 (va_A [(h0, .inr (6, [.ref tb, .int 8])), (tb, .inl (bk, 2400, .inl bf))] sz) := by
  refine Met.ofW (cc := cX6_append) (maxL := 3) (ret := none) (by decide) rfl ?_
  intro p e s m args below meth c s₁ B hml hv
  obtain ⟨rfl, hsz, hP, hK, hD0⟩ := hv
  have hx := B.exec
  have hb := B.bytes
  have hr := B.returns
  have hts0 := atoms_spec (ws := (.code yX6_append cX6_append 3 none :: ALLW)) B.pre
  have hts := fun (w : Cond) (h : w ∈ ALLW) => hts0 w (List.mem_cons_of_mem _ h)
  have hown : s.vm.findClass RX6 = some m.cls := findClass_of_methodNamed B.named
  have hlocks := B.notSynchronized
  subst hsz
  have hD := hD0.self (sz := s.heap.size)
  generalize hAe : va_A [(h0, .inr (6, [.ref tb, .int 8])), (tb, .inl (bk, 2400, .inl bf))] s.heap.size = A at hD ⊢
  have hA : ∀ q : Nat, s.heap.size ≤ q → A q := fun q h => by rw [← hAe]; exact Or.inr h
  have hS : va_S A s.heap s.heap [] := va_S.rf
  have hP : va_P (dC, dI) vwCl [(h0, .inr (6, [.ref tb, .int 8])), (tb, .inl (bk, 2400, .inl bf))] s.heap := hP
  have hl := lv_entry ([.ref h0, .int a]) (n := 3) (Nat.le_of_ble_eq_true rfl)
  rw [lg_entry_eq]
  generalize (lg_sl ([.ref h0, .int a]) ++ List.replicate (3 - (lg_sl ([.ref h0, .int a])).length) Slot.unset).toArray = ls at hl ⊢
  have hl : lv_has ls 3 [(0, .ref h0), (1, .int a)] := hl
  refine lv_bipush (v := 24) hx hb dX6_append_0 (by decide) ?_
  refine lv_istore_n (lv' := [(2, .int 24), (0, .ref h0), (1, .int a)]) hx hb dX6_append_2 rfl hl (by decide) rfl (fun ls hl => ?_)
  refine lv_iload_n hx hb dX6_append_3 rfl (lv_at hl 0 rfl) ?_
  refine lv_if_lt (tgt := 46) hx hb dX6_append_4 (by decide) (fun c_1 => absurd c_1 (by decide)) (fun c_1 => ?_)
  refine lv_aload_n hx hb dX6_append_7 rfl (lv_at hl 1 rfl) ?_
  refine va_get (D := (dC, dI)) (ci := 6) (v := .int 8) (C := RX6) (T := TX6) (N := 2) hx hb hts inA6 hown hK hP 0 rfl rfl 1 (by decide) (hts _ w_59) (fun _ h9 => h9) rfl dX6_append_8 ?_
  refine lv_sipush (v := 2400) hx hb dX6_append_11 (by decide) ?_
  refine lv_icmp_ge (tgt := 46) hx hb dX6_append_14 (by decide) (fun c_2 => absurd c_2 (by decide)) (fun c_2 => ?_)
  refine lv_aload_n hx hb dX6_append_17 rfl (lv_at hl 1 rfl) ?_
  refine va_get (D := (dC, dI)) (ci := 6) (v := .ref tb) (C := RX6) (T := TX6) (N := 2) hx hb hts inA6 hown hK hP 0 rfl rfl 0 (by decide) (hts _ w_58) (fun _ h9 => h9) rfl dX6_append_18 ?_
  refine lv_aload_n hx hb dX6_append_21 rfl (lv_at hl 1 rfl) ?_
  refine va_get (D := (dC, dI)) (ci := 6) (v := .int 8) (C := RX6) (T := TX6) (N := 2) hx hb hts inA6 hown hK hP 0 rfl rfl 1 (by decide) (hts _ w_59) (fun _ h9 => h9) rfl dX6_append_22 ?_
  refine lv_iload_n hx hb dX6_append_25 rfl (lv_at hl 2 rfl) ?_
  refine lv_iload_n hx hb dX6_append_26 rfl (lv_at hl 0 rfl) ?_
  refine lv_ishr hx hb dX6_append_27 ?_
  refine lv_topi (fun x_3 ex_3 => ?_)
  obtain ⟨y_4, ey_4⟩ : ∃ y : Int32, x_3.toInt8.toInt32 = y := ⟨_, rfl⟩
  refine lv_i2b (v := y_4) hx hb dX6_append_28 ey_4 ?_
  refine va_bast hx hb hK hP hD hS 1 0 rfl rfl (show vp_in 8 2400 from (by unfold vp_in; decide)) dX6_append_29 (fun H locs hP hD hS => ?_)
  rw [show (8 : Int32).toNatClampNeg = 8 from by decide] at hP hD
  generalize upd (bf) 8 (vp_nar .byte y_4) = f_5 at hP hD
  have hP : va_P (dC, dI) vwCl [(h0, .inr (6, [.ref tb, .int 8])), (tb, .inl (bk, 2400, .inl f_5))] H := hP
  have hD : va_D A [(h0, .inr (6, [.ref tb, .int 8])), (tb, .inl (bk, 2400, .inl f_5))] := hD
  refine lv_aload_n hx hb dX6_append_30 rfl (lv_at hl 1 rfl) ?_
  refine lv_dup hx hb dX6_append_31 rfl ?_
  refine va_get (D := (dC, dI)) (ci := 6) (v := .int 8) (C := RX6) (T := TX6) (N := 2) hx hb hts inA6 hown hK hP 0 rfl rfl 1 (by decide) (hts _ w_59) (fun _ h9 => h9) rfl dX6_append_32 ?_
  refine lv_iconst (v := 1) hx hb dX6_append_35 (by decide) ?_
  refine lv_iadd hx hb dX6_append_36 ?_
  refine lv_topi (fun x_6 ex_6 => ?_)
  obtain rfl : x_6 = 9 := ex_6.trans (by decide +kernel)
  refine va_put (D := (dC, dI)) (ci := 6) (v := .int 9) (ty := tyX6 1) (C := RX6) (T := TX6) (N := 2) hx hb hts inA6 tyX6 tyX6_ok nmX6 hown hK hP hD hS 0 rfl rfl 1 (by decide) (hts _ w_59) (fun _ h9 => h9) rfl (tyX6_ok 1 (by decide)) rfl rfl (Nat.le_of_ble_eq_true rfl) dX6_append_37 (fun H locs hP hD hS => ?_)
  have hP : va_P (dC, dI) vwCl [(h0, .inr (6, [.ref tb, .int 9])), (tb, .inl (bk, 2400, .inl f_5))] H := hP
  have hD : va_D A [(h0, .inr (6, [.ref tb, .int 9])), (tb, .inl (bk, 2400, .inl f_5))] := hD
  refine lv_iinc (v := 16) (lv' := [(2, .int 16), (0, .ref h0), (1, .int a)]) hx hb dX6_append_40 hl (k := 0) rfl (by decide) (by decide) rfl (fun ls hl => ?_)
  refine lv_goto (tgt := 3) hx hb dX6_append_43 (by decide) ?_
  refine lv_iload_n hx hb dX6_append_3 rfl (lv_at hl 0 rfl) ?_
  refine lv_if_lt (tgt := 46) hx hb dX6_append_4 (by decide) (fun c_7 => absurd c_7 (by decide)) (fun c_7 => ?_)
  refine lv_aload_n hx hb dX6_append_7 rfl (lv_at hl 1 rfl) ?_
  refine va_get (D := (dC, dI)) (ci := 6) (v := .int 9) (C := RX6) (T := TX6) (N := 2) hx hb hts inA6 hown hK hP 0 rfl rfl 1 (by decide) (hts _ w_59) (fun _ h9 => h9) rfl dX6_append_8 ?_
  refine lv_sipush (v := 2400) hx hb dX6_append_11 (by decide) ?_
  refine lv_icmp_ge (tgt := 46) hx hb dX6_append_14 (by decide) (fun c_8 => absurd c_8 (by decide)) (fun c_8 => ?_)
  refine lv_aload_n hx hb dX6_append_17 rfl (lv_at hl 1 rfl) ?_
  refine va_get (D := (dC, dI)) (ci := 6) (v := .ref tb) (C := RX6) (T := TX6) (N := 2) hx hb hts inA6 hown hK hP 0 rfl rfl 0 (by decide) (hts _ w_58) (fun _ h9 => h9) rfl dX6_append_18 ?_
  refine lv_aload_n hx hb dX6_append_21 rfl (lv_at hl 1 rfl) ?_
  refine va_get (D := (dC, dI)) (ci := 6) (v := .int 9) (C := RX6) (T := TX6) (N := 2) hx hb hts inA6 hown hK hP 0 rfl rfl 1 (by decide) (hts _ w_59) (fun _ h9 => h9) rfl dX6_append_22 ?_
  refine lv_iload_n hx hb dX6_append_25 rfl (lv_at hl 2 rfl) ?_
  refine lv_iload_n hx hb dX6_append_26 rfl (lv_at hl 0 rfl) ?_
  refine lv_ishr hx hb dX6_append_27 ?_
  refine lv_topi (fun x_9 ex_9 => ?_)
  obtain ⟨y_10, ey_10⟩ : ∃ y : Int32, x_9.toInt8.toInt32 = y := ⟨_, rfl⟩
  refine lv_i2b (v := y_10) hx hb dX6_append_28 ey_10 ?_
  refine va_bast hx hb hK hP hD hS 1 0 rfl rfl (show vp_in 9 2400 from (by unfold vp_in; decide)) dX6_append_29 (fun H locs hP hD hS => ?_)
  rw [show (9 : Int32).toNatClampNeg = 9 from by decide] at hP hD
  generalize upd (f_5) 9 (vp_nar .byte y_10) = f_11 at hP hD
  have hP : va_P (dC, dI) vwCl [(h0, .inr (6, [.ref tb, .int 9])), (tb, .inl (bk, 2400, .inl f_11))] H := hP
  have hD : va_D A [(h0, .inr (6, [.ref tb, .int 9])), (tb, .inl (bk, 2400, .inl f_11))] := hD
  refine lv_aload_n hx hb dX6_append_30 rfl (lv_at hl 1 rfl) ?_
  refine lv_dup hx hb dX6_append_31 rfl ?_
  refine va_get (D := (dC, dI)) (ci := 6) (v := .int 9) (C := RX6) (T := TX6) (N := 2) hx hb hts inA6 hown hK hP 0 rfl rfl 1 (by decide) (hts _ w_59) (fun _ h9 => h9) rfl dX6_append_32 ?_
  refine lv_iconst (v := 1) hx hb dX6_append_35 (by decide) ?_
  refine lv_iadd hx hb dX6_append_36 ?_
  refine lv_topi (fun x_12 ex_12 => ?_)
  obtain rfl : x_12 = 10 := ex_12.trans (by decide +kernel)
  refine va_put (D := (dC, dI)) (ci := 6) (v := .int 10) (ty := tyX6 1) (C := RX6) (T := TX6) (N := 2) hx hb hts inA6 tyX6 tyX6_ok nmX6 hown hK hP hD hS 0 rfl rfl 1 (by decide) (hts _ w_59) (fun _ h9 => h9) rfl (tyX6_ok 1 (by decide)) rfl rfl (Nat.le_of_ble_eq_true rfl) dX6_append_37 (fun H locs hP hD hS => ?_)
  have hP : va_P (dC, dI) vwCl [(h0, .inr (6, [.ref tb, .int 10])), (tb, .inl (bk, 2400, .inl f_11))] H := hP
  have hD : va_D A [(h0, .inr (6, [.ref tb, .int 10])), (tb, .inl (bk, 2400, .inl f_11))] := hD
  refine lv_iinc (v := 8) (lv' := [(2, .int 8), (0, .ref h0), (1, .int a)]) hx hb dX6_append_40 hl (k := 0) rfl (by decide) (by decide) rfl (fun ls hl => ?_)
  refine lv_goto (tgt := 3) hx hb dX6_append_43 (by decide) ?_
  refine lv_iload_n hx hb dX6_append_3 rfl (lv_at hl 0 rfl) ?_
  refine lv_if_lt (tgt := 46) hx hb dX6_append_4 (by decide) (fun c_13 => absurd c_13 (by decide)) (fun c_13 => ?_)
  refine lv_aload_n hx hb dX6_append_7 rfl (lv_at hl 1 rfl) ?_
  refine va_get (D := (dC, dI)) (ci := 6) (v := .int 10) (C := RX6) (T := TX6) (N := 2) hx hb hts inA6 hown hK hP 0 rfl rfl 1 (by decide) (hts _ w_59) (fun _ h9 => h9) rfl dX6_append_8 ?_
  refine lv_sipush (v := 2400) hx hb dX6_append_11 (by decide) ?_
  refine lv_icmp_ge (tgt := 46) hx hb dX6_append_14 (by decide) (fun c_14 => absurd c_14 (by decide)) (fun c_14 => ?_)
  refine lv_aload_n hx hb dX6_append_17 rfl (lv_at hl 1 rfl) ?_
  refine va_get (D := (dC, dI)) (ci := 6) (v := .ref tb) (C := RX6) (T := TX6) (N := 2) hx hb hts inA6 hown hK hP 0 rfl rfl 0 (by decide) (hts _ w_58) (fun _ h9 => h9) rfl dX6_append_18 ?_
  refine lv_aload_n hx hb dX6_append_21 rfl (lv_at hl 1 rfl) ?_
  refine va_get (D := (dC, dI)) (ci := 6) (v := .int 10) (C := RX6) (T := TX6) (N := 2) hx hb hts inA6 hown hK hP 0 rfl rfl 1 (by decide) (hts _ w_59) (fun _ h9 => h9) rfl dX6_append_22 ?_
  refine lv_iload_n hx hb dX6_append_25 rfl (lv_at hl 2 rfl) ?_
  refine lv_iload_n hx hb dX6_append_26 rfl (lv_at hl 0 rfl) ?_
  refine lv_ishr hx hb dX6_append_27 ?_
  refine lv_topi (fun x_15 ex_15 => ?_)
  obtain ⟨y_16, ey_16⟩ : ∃ y : Int32, x_15.toInt8.toInt32 = y := ⟨_, rfl⟩
  refine lv_i2b (v := y_16) hx hb dX6_append_28 ey_16 ?_
  refine va_bast hx hb hK hP hD hS 1 0 rfl rfl (show vp_in 10 2400 from (by unfold vp_in; decide)) dX6_append_29 (fun H locs hP hD hS => ?_)
  rw [show (10 : Int32).toNatClampNeg = 10 from by decide] at hP hD
  generalize upd (f_11) 10 (vp_nar .byte y_16) = f_17 at hP hD
  have hP : va_P (dC, dI) vwCl [(h0, .inr (6, [.ref tb, .int 10])), (tb, .inl (bk, 2400, .inl f_17))] H := hP
  have hD : va_D A [(h0, .inr (6, [.ref tb, .int 10])), (tb, .inl (bk, 2400, .inl f_17))] := hD
  refine lv_aload_n hx hb dX6_append_30 rfl (lv_at hl 1 rfl) ?_
  refine lv_dup hx hb dX6_append_31 rfl ?_
  refine va_get (D := (dC, dI)) (ci := 6) (v := .int 10) (C := RX6) (T := TX6) (N := 2) hx hb hts inA6 hown hK hP 0 rfl rfl 1 (by decide) (hts _ w_59) (fun _ h9 => h9) rfl dX6_append_32 ?_
  refine lv_iconst (v := 1) hx hb dX6_append_35 (by decide) ?_
  refine lv_iadd hx hb dX6_append_36 ?_
  refine lv_topi (fun x_18 ex_18 => ?_)
  obtain rfl : x_18 = 11 := ex_18.trans (by decide +kernel)
  refine va_put (D := (dC, dI)) (ci := 6) (v := .int 11) (ty := tyX6 1) (C := RX6) (T := TX6) (N := 2) hx hb hts inA6 tyX6 tyX6_ok nmX6 hown hK hP hD hS 0 rfl rfl 1 (by decide) (hts _ w_59) (fun _ h9 => h9) rfl (tyX6_ok 1 (by decide)) rfl rfl (Nat.le_of_ble_eq_true rfl) dX6_append_37 (fun H locs hP hD hS => ?_)
  have hP : va_P (dC, dI) vwCl [(h0, .inr (6, [.ref tb, .int 11])), (tb, .inl (bk, 2400, .inl f_17))] H := hP
  have hD : va_D A [(h0, .inr (6, [.ref tb, .int 11])), (tb, .inl (bk, 2400, .inl f_17))] := hD
  refine lv_iinc (v := 0) (lv' := [(2, .int 0), (0, .ref h0), (1, .int a)]) hx hb dX6_append_40 hl (k := 0) rfl (by decide) (by decide) rfl (fun ls hl => ?_)
  refine lv_goto (tgt := 3) hx hb dX6_append_43 (by decide) ?_
  refine lv_iload_n hx hb dX6_append_3 rfl (lv_at hl 0 rfl) ?_
  refine lv_if_lt (tgt := 46) hx hb dX6_append_4 (by decide) (fun c_19 => absurd c_19 (by decide)) (fun c_19 => ?_)
  refine lv_aload_n hx hb dX6_append_7 rfl (lv_at hl 1 rfl) ?_
  refine va_get (D := (dC, dI)) (ci := 6) (v := .int 11) (C := RX6) (T := TX6) (N := 2) hx hb hts inA6 hown hK hP 0 rfl rfl 1 (by decide) (hts _ w_59) (fun _ h9 => h9) rfl dX6_append_8 ?_
  refine lv_sipush (v := 2400) hx hb dX6_append_11 (by decide) ?_
  refine lv_icmp_ge (tgt := 46) hx hb dX6_append_14 (by decide) (fun c_20 => absurd c_20 (by decide)) (fun c_20 => ?_)
  refine lv_aload_n hx hb dX6_append_17 rfl (lv_at hl 1 rfl) ?_
  refine va_get (D := (dC, dI)) (ci := 6) (v := .ref tb) (C := RX6) (T := TX6) (N := 2) hx hb hts inA6 hown hK hP 0 rfl rfl 0 (by decide) (hts _ w_58) (fun _ h9 => h9) rfl dX6_append_18 ?_
  refine lv_aload_n hx hb dX6_append_21 rfl (lv_at hl 1 rfl) ?_
  refine va_get (D := (dC, dI)) (ci := 6) (v := .int 11) (C := RX6) (T := TX6) (N := 2) hx hb hts inA6 hown hK hP 0 rfl rfl 1 (by decide) (hts _ w_59) (fun _ h9 => h9) rfl dX6_append_22 ?_
  refine lv_iload_n hx hb dX6_append_25 rfl (lv_at hl 2 rfl) ?_
  refine lv_iload_n hx hb dX6_append_26 rfl (lv_at hl 0 rfl) ?_
  refine lv_ishr hx hb dX6_append_27 ?_
  refine lv_topi (fun x_21 ex_21 => ?_)
  obtain ⟨y_22, ey_22⟩ : ∃ y : Int32, x_21.toInt8.toInt32 = y := ⟨_, rfl⟩
  refine lv_i2b (v := y_22) hx hb dX6_append_28 ey_22 ?_
  refine va_bast hx hb hK hP hD hS 1 0 rfl rfl (show vp_in 11 2400 from (by unfold vp_in; decide)) dX6_append_29 (fun H locs hP hD hS => ?_)
  rw [show (11 : Int32).toNatClampNeg = 11 from by decide] at hP hD
  generalize upd (f_17) 11 (vp_nar .byte y_22) = f_23 at hP hD
  have hP : va_P (dC, dI) vwCl [(h0, .inr (6, [.ref tb, .int 11])), (tb, .inl (bk, 2400, .inl f_23))] H := hP
  have hD : va_D A [(h0, .inr (6, [.ref tb, .int 11])), (tb, .inl (bk, 2400, .inl f_23))] := hD
  refine lv_aload_n hx hb dX6_append_30 rfl (lv_at hl 1 rfl) ?_
  refine lv_dup hx hb dX6_append_31 rfl ?_
  refine va_get (D := (dC, dI)) (ci := 6) (v := .int 11) (C := RX6) (T := TX6) (N := 2) hx hb hts inA6 hown hK hP 0 rfl rfl 1 (by decide) (hts _ w_59) (fun _ h9 => h9) rfl dX6_append_32 ?_
  refine lv_iconst (v := 1) hx hb dX6_append_35 (by decide) ?_
  refine lv_iadd hx hb dX6_append_36 ?_
  refine lv_topi (fun x_24 ex_24 => ?_)
  obtain rfl : x_24 = 12 := ex_24.trans (by decide +kernel)
  refine va_put (D := (dC, dI)) (ci := 6) (v := .int 12) (ty := tyX6 1) (C := RX6) (T := TX6) (N := 2) hx hb hts inA6 tyX6 tyX6_ok nmX6 hown hK hP hD hS 0 rfl rfl 1 (by decide) (hts _ w_59) (fun _ h9 => h9) rfl (tyX6_ok 1 (by decide)) rfl rfl (Nat.le_of_ble_eq_true rfl) dX6_append_37 (fun H locs hP hD hS => ?_)
  have hP : va_P (dC, dI) vwCl [(h0, .inr (6, [.ref tb, .int 12])), (tb, .inl (bk, 2400, .inl f_23))] H := hP
  have hD : va_D A [(h0, .inr (6, [.ref tb, .int 12])), (tb, .inl (bk, 2400, .inl f_23))] := hD
  refine lv_iinc (v := (-8)) (lv' := [(2, .int (-8)), (0, .ref h0), (1, .int a)]) hx hb dX6_append_40 hl (k := 0) rfl (by decide) (by decide) rfl (fun ls hl => ?_)
  refine lv_goto (tgt := 3) hx hb dX6_append_43 (by decide) ?_
  refine lv_iload_n hx hb dX6_append_3 rfl (lv_at hl 0 rfl) ?_
  refine lv_if_lt (tgt := 46) hx hb dX6_append_4 (by decide) (fun c_25 => ?_) (fun c_25 => absurd (by decide) c_25)
  have hP9 := hP.sub (ws' := [(h0, .inr (6, [.ref tb, .int 12])), (tb, .inl (bk, 2400, .inl f_23))]) [0, 1] rfl
  have hD9 := hD.sub (ws' := [(h0, .inr (6, [.ref tb, .int 12])), (tb, .inl (bk, 2400, .inl f_23))]) [0, 1] (by decide) rfl
  have hK9 := hK.sub (tys' := []) [] rfl
  exact W.vret hx hb hr (fun t ht hW => ⟨⟨(), rfl, trivial, f_23, by rw [ht]; exact hP9, va_K.moved hW.alike hK9, hD9⟩, hS.F ht⟩) hS.2.2 dX6_append_46
set_option maxHeartbeats 4000000 in
set_option maxRecDepth 100000 in
theorem c_append12 (l : Launch) (dC : Nat → ClassId) (dI : Nat → Nat → Nat) (sz : Nat) (h0 : Nat) (tb : Nat) (bk : ClassId) (bf : Nat → Int32) (a : Int32)  : Met l yX6_append (.code yX6_append cX6_append 3 none :: ALLW) ({ frames := 0, cells := 0, slots := 0, locals := 0 }) (va_Pc [.ref h0, .int a] (fun U => U.heap.size = sz ∧ va_P (dC, dI) vwCl [(h0, .inr (6, [.ref tb, .int 12])), (tb, .inl (bk, 2400, .inl bf))] U.heap ∧ va_K (dC, dI) vwCl [(bk, .byte)] U ∧ va_D (fun _ => True) [(h0, .inr (6, [.ref tb, .int 12])), (tb, .inl (bk, 2400, .inl bf))])) (va_Qv (fun _ : Unit => True) (fun (_ : Unit) (t : State) => ∃ (f_23 : Nat → Int32), va_P (dC, dI) vwCl [(h0, .inr (6, [.ref tb, .int 16])), (tb, .inl (bk, 2400, .inl f_23))] t.heap ∧ va_K (dC, dI) vwCl [] t ∧ va_D (va_A [(h0, .inr (6, [.ref tb, .int 12])), (tb, .inl (bk, 2400, .inl bf))] sz) [(h0, .inr (6, [.ref tb, .int 16])), (tb, .inl (bk, 2400, .inl f_23))]) (va_A [(h0, .inr (6, [.ref tb, .int 12])), (tb, .inl (bk, 2400, .inl bf))] sz)) 0 0 (va_A [(h0, .inr (6, [.ref tb, .int 12])), (tb, .inl (bk, 2400, .inl bf))] sz) := by
  refine Met.ofW (cc := cX6_append) (maxL := 3) (ret := none) (by decide) rfl ?_
  intro p e s m args below meth c s₁ B hml hv
  obtain ⟨rfl, hsz, hP, hK, hD0⟩ := hv
  have hx := B.exec
  have hb := B.bytes
  have hr := B.returns
  have hts0 := atoms_spec (ws := (.code yX6_append cX6_append 3 none :: ALLW)) B.pre
  have hts := fun (w : Cond) (h : w ∈ ALLW) => hts0 w (List.mem_cons_of_mem _ h)
  have hown : s.vm.findClass RX6 = some m.cls := findClass_of_methodNamed B.named
  have hlocks := B.notSynchronized
  subst hsz
  have hD := hD0.self (sz := s.heap.size)
  generalize hAe : va_A [(h0, .inr (6, [.ref tb, .int 12])), (tb, .inl (bk, 2400, .inl bf))] s.heap.size = A at hD ⊢
  have hA : ∀ q : Nat, s.heap.size ≤ q → A q := fun q h => by rw [← hAe]; exact Or.inr h
  have hS : va_S A s.heap s.heap [] := va_S.rf
  have hP : va_P (dC, dI) vwCl [(h0, .inr (6, [.ref tb, .int 12])), (tb, .inl (bk, 2400, .inl bf))] s.heap := hP
  have hl := lv_entry ([.ref h0, .int a]) (n := 3) (Nat.le_of_ble_eq_true rfl)
  rw [lg_entry_eq]
  generalize (lg_sl ([.ref h0, .int a]) ++ List.replicate (3 - (lg_sl ([.ref h0, .int a])).length) Slot.unset).toArray = ls at hl ⊢
  have hl : lv_has ls 3 [(0, .ref h0), (1, .int a)] := hl
  refine lv_bipush (v := 24) hx hb dX6_append_0 (by decide) ?_
  refine lv_istore_n (lv' := [(2, .int 24), (0, .ref h0), (1, .int a)]) hx hb dX6_append_2 rfl hl (by decide) rfl (fun ls hl => ?_)
  refine lv_iload_n hx hb dX6_append_3 rfl (lv_at hl 0 rfl) ?_
  refine lv_if_lt (tgt := 46) hx hb dX6_append_4 (by decide) (fun c_1 => absurd c_1 (by decide)) (fun c_1 => ?_)
  refine lv_aload_n hx hb dX6_append_7 rfl (lv_at hl 1 rfl) ?_
  refine va_get (D := (dC, dI)) (ci := 6) (v := .int 12) (C := RX6) (T := TX6) (N := 2) hx hb hts inA6 hown hK hP 0 rfl rfl 1 (by decide) (hts _ w_59) (fun _ h9 => h9) rfl dX6_append_8 ?_
  refine lv_sipush (v := 2400) hx hb dX6_append_11 (by decide) ?_
  refine lv_icmp_ge (tgt := 46) hx hb dX6_append_14 (by decide) (fun c_2 => absurd c_2 (by decide)) (fun c_2 => ?_)
  refine lv_aload_n hx hb dX6_append_17 rfl (lv_at hl 1 rfl) ?_
  refine va_get (D := (dC, dI)) (ci := 6) (v := .ref tb) (C := RX6) (T := TX6) (N := 2) hx hb hts inA6 hown hK hP 0 rfl rfl 0 (by decide) (hts _ w_58) (fun _ h9 => h9) rfl dX6_append_18 ?_
  refine lv_aload_n hx hb dX6_append_21 rfl (lv_at hl 1 rfl) ?_
  refine va_get (D := (dC, dI)) (ci := 6) (v := .int 12) (C := RX6) (T := TX6) (N := 2) hx hb hts inA6 hown hK hP 0 rfl rfl 1 (by decide) (hts _ w_59) (fun _ h9 => h9) rfl dX6_append_22 ?_
  refine lv_iload_n hx hb dX6_append_25 rfl (lv_at hl 2 rfl) ?_
  refine lv_iload_n hx hb dX6_append_26 rfl (lv_at hl 0 rfl) ?_
  refine lv_ishr hx hb dX6_append_27 ?_
  refine lv_topi (fun x_3 ex_3 => ?_)
  obtain ⟨y_4, ey_4⟩ : ∃ y : Int32, x_3.toInt8.toInt32 = y := ⟨_, rfl⟩
  refine lv_i2b (v := y_4) hx hb dX6_append_28 ey_4 ?_
  refine va_bast hx hb hK hP hD hS 1 0 rfl rfl (show vp_in 12 2400 from (by unfold vp_in; decide)) dX6_append_29 (fun H locs hP hD hS => ?_)
  rw [show (12 : Int32).toNatClampNeg = 12 from by decide] at hP hD
  generalize upd (bf) 12 (vp_nar .byte y_4) = f_5 at hP hD
  have hP : va_P (dC, dI) vwCl [(h0, .inr (6, [.ref tb, .int 12])), (tb, .inl (bk, 2400, .inl f_5))] H := hP
  have hD : va_D A [(h0, .inr (6, [.ref tb, .int 12])), (tb, .inl (bk, 2400, .inl f_5))] := hD
  refine lv_aload_n hx hb dX6_append_30 rfl (lv_at hl 1 rfl) ?_
  refine lv_dup hx hb dX6_append_31 rfl ?_
  refine va_get (D := (dC, dI)) (ci := 6) (v := .int 12) (C := RX6) (T := TX6) (N := 2) hx hb hts inA6 hown hK hP 0 rfl rfl 1 (by decide) (hts _ w_59) (fun _ h9 => h9) rfl dX6_append_32 ?_
  refine lv_iconst (v := 1) hx hb dX6_append_35 (by decide) ?_
  refine lv_iadd hx hb dX6_append_36 ?_
  refine lv_topi (fun x_6 ex_6 => ?_)
  obtain rfl : x_6 = 13 := ex_6.trans (by decide +kernel)
  refine va_put (D := (dC, dI)) (ci := 6) (v := .int 13) (ty := tyX6 1) (C := RX6) (T := TX6) (N := 2) hx hb hts inA6 tyX6 tyX6_ok nmX6 hown hK hP hD hS 0 rfl rfl 1 (by decide) (hts _ w_59) (fun _ h9 => h9) rfl (tyX6_ok 1 (by decide)) rfl rfl (Nat.le_of_ble_eq_true rfl) dX6_append_37 (fun H locs hP hD hS => ?_)
  have hP : va_P (dC, dI) vwCl [(h0, .inr (6, [.ref tb, .int 13])), (tb, .inl (bk, 2400, .inl f_5))] H := hP
  have hD : va_D A [(h0, .inr (6, [.ref tb, .int 13])), (tb, .inl (bk, 2400, .inl f_5))] := hD
  refine lv_iinc (v := 16) (lv' := [(2, .int 16), (0, .ref h0), (1, .int a)]) hx hb dX6_append_40 hl (k := 0) rfl (by decide) (by decide) rfl (fun ls hl => ?_)
  refine lv_goto (tgt := 3) hx hb dX6_append_43 (by decide) ?_
  refine lv_iload_n hx hb dX6_append_3 rfl (lv_at hl 0 rfl) ?_
  refine lv_if_lt (tgt := 46) hx hb dX6_append_4 (by decide) (fun c_7 => absurd c_7 (by decide)) (fun c_7 => ?_)
  refine lv_aload_n hx hb dX6_append_7 rfl (lv_at hl 1 rfl) ?_
  refine va_get (D := (dC, dI)) (ci := 6) (v := .int 13) (C := RX6) (T := TX6) (N := 2) hx hb hts inA6 hown hK hP 0 rfl rfl 1 (by decide) (hts _ w_59) (fun _ h9 => h9) rfl dX6_append_8 ?_
  refine lv_sipush (v := 2400) hx hb dX6_append_11 (by decide) ?_
  refine lv_icmp_ge (tgt := 46) hx hb dX6_append_14 (by decide) (fun c_8 => absurd c_8 (by decide)) (fun c_8 => ?_)
  refine lv_aload_n hx hb dX6_append_17 rfl (lv_at hl 1 rfl) ?_
  refine va_get (D := (dC, dI)) (ci := 6) (v := .ref tb) (C := RX6) (T := TX6) (N := 2) hx hb hts inA6 hown hK hP 0 rfl rfl 0 (by decide) (hts _ w_58) (fun _ h9 => h9) rfl dX6_append_18 ?_
  refine lv_aload_n hx hb dX6_append_21 rfl (lv_at hl 1 rfl) ?_
  refine va_get (D := (dC, dI)) (ci := 6) (v := .int 13) (C := RX6) (T := TX6) (N := 2) hx hb hts inA6 hown hK hP 0 rfl rfl 1 (by decide) (hts _ w_59) (fun _ h9 => h9) rfl dX6_append_22 ?_
  refine lv_iload_n hx hb dX6_append_25 rfl (lv_at hl 2 rfl) ?_
  refine lv_iload_n hx hb dX6_append_26 rfl (lv_at hl 0 rfl) ?_
  refine lv_ishr hx hb dX6_append_27 ?_
  refine lv_topi (fun x_9 ex_9 => ?_)
  obtain ⟨y_10, ey_10⟩ : ∃ y : Int32, x_9.toInt8.toInt32 = y := ⟨_, rfl⟩
  refine lv_i2b (v := y_10) hx hb dX6_append_28 ey_10 ?_
  refine va_bast hx hb hK hP hD hS 1 0 rfl rfl (show vp_in 13 2400 from (by unfold vp_in; decide)) dX6_append_29 (fun H locs hP hD hS => ?_)
  rw [show (13 : Int32).toNatClampNeg = 13 from by decide] at hP hD
  generalize upd (f_5) 13 (vp_nar .byte y_10) = f_11 at hP hD
  have hP : va_P (dC, dI) vwCl [(h0, .inr (6, [.ref tb, .int 13])), (tb, .inl (bk, 2400, .inl f_11))] H := hP
  have hD : va_D A [(h0, .inr (6, [.ref tb, .int 13])), (tb, .inl (bk, 2400, .inl f_11))] := hD
  refine lv_aload_n hx hb dX6_append_30 rfl (lv_at hl 1 rfl) ?_
  refine lv_dup hx hb dX6_append_31 rfl ?_
  refine va_get (D := (dC, dI)) (ci := 6) (v := .int 13) (C := RX6) (T := TX6) (N := 2) hx hb hts inA6 hown hK hP 0 rfl rfl 1 (by decide) (hts _ w_59) (fun _ h9 => h9) rfl dX6_append_32 ?_
  refine lv_iconst (v := 1) hx hb dX6_append_35 (by decide) ?_
  refine lv_iadd hx hb dX6_append_36 ?_
  refine lv_topi (fun x_12 ex_12 => ?_)
  obtain rfl : x_12 = 14 := ex_12.trans (by decide +kernel)
  refine va_put (D := (dC, dI)) (ci := 6) (v := .int 14) (ty := tyX6 1) (C := RX6) (T := TX6) (N := 2) hx hb hts inA6 tyX6 tyX6_ok nmX6 hown hK hP hD hS 0 rfl rfl 1 (by decide) (hts _ w_59) (fun _ h9 => h9) rfl (tyX6_ok 1 (by decide)) rfl rfl (Nat.le_of_ble_eq_true rfl) dX6_append_37 (fun H locs hP hD hS => ?_)
  have hP : va_P (dC, dI) vwCl [(h0, .inr (6, [.ref tb, .int 14])), (tb, .inl (bk, 2400, .inl f_11))] H := hP
  have hD : va_D A [(h0, .inr (6, [.ref tb, .int 14])), (tb, .inl (bk, 2400, .inl f_11))] := hD
  refine lv_iinc (v := 8) (lv' := [(2, .int 8), (0, .ref h0), (1, .int a)]) hx hb dX6_append_40 hl (k := 0) rfl (by decide) (by decide) rfl (fun ls hl => ?_)
  refine lv_goto (tgt := 3) hx hb dX6_append_43 (by decide) ?_
  refine lv_iload_n hx hb dX6_append_3 rfl (lv_at hl 0 rfl) ?_
  refine lv_if_lt (tgt := 46) hx hb dX6_append_4 (by decide) (fun c_13 => absurd c_13 (by decide)) (fun c_13 => ?_)
  refine lv_aload_n hx hb dX6_append_7 rfl (lv_at hl 1 rfl) ?_
  refine va_get (D := (dC, dI)) (ci := 6) (v := .int 14) (C := RX6) (T := TX6) (N := 2) hx hb hts inA6 hown hK hP 0 rfl rfl 1 (by decide) (hts _ w_59) (fun _ h9 => h9) rfl dX6_append_8 ?_
  refine lv_sipush (v := 2400) hx hb dX6_append_11 (by decide) ?_
  refine lv_icmp_ge (tgt := 46) hx hb dX6_append_14 (by decide) (fun c_14 => absurd c_14 (by decide)) (fun c_14 => ?_)
  refine lv_aload_n hx hb dX6_append_17 rfl (lv_at hl 1 rfl) ?_
  refine va_get (D := (dC, dI)) (ci := 6) (v := .ref tb) (C := RX6) (T := TX6) (N := 2) hx hb hts inA6 hown hK hP 0 rfl rfl 0 (by decide) (hts _ w_58) (fun _ h9 => h9) rfl dX6_append_18 ?_
  refine lv_aload_n hx hb dX6_append_21 rfl (lv_at hl 1 rfl) ?_
  refine va_get (D := (dC, dI)) (ci := 6) (v := .int 14) (C := RX6) (T := TX6) (N := 2) hx hb hts inA6 hown hK hP 0 rfl rfl 1 (by decide) (hts _ w_59) (fun _ h9 => h9) rfl dX6_append_22 ?_
  refine lv_iload_n hx hb dX6_append_25 rfl (lv_at hl 2 rfl) ?_
  refine lv_iload_n hx hb dX6_append_26 rfl (lv_at hl 0 rfl) ?_
  refine lv_ishr hx hb dX6_append_27 ?_
  refine lv_topi (fun x_15 ex_15 => ?_)
  obtain ⟨y_16, ey_16⟩ : ∃ y : Int32, x_15.toInt8.toInt32 = y := ⟨_, rfl⟩
  refine lv_i2b (v := y_16) hx hb dX6_append_28 ey_16 ?_
  refine va_bast hx hb hK hP hD hS 1 0 rfl rfl (show vp_in 14 2400 from (by unfold vp_in; decide)) dX6_append_29 (fun H locs hP hD hS => ?_)
  rw [show (14 : Int32).toNatClampNeg = 14 from by decide] at hP hD
  generalize upd (f_11) 14 (vp_nar .byte y_16) = f_17 at hP hD
  have hP : va_P (dC, dI) vwCl [(h0, .inr (6, [.ref tb, .int 14])), (tb, .inl (bk, 2400, .inl f_17))] H := hP
  have hD : va_D A [(h0, .inr (6, [.ref tb, .int 14])), (tb, .inl (bk, 2400, .inl f_17))] := hD
  refine lv_aload_n hx hb dX6_append_30 rfl (lv_at hl 1 rfl) ?_
  refine lv_dup hx hb dX6_append_31 rfl ?_
  refine va_get (D := (dC, dI)) (ci := 6) (v := .int 14) (C := RX6) (T := TX6) (N := 2) hx hb hts inA6 hown hK hP 0 rfl rfl 1 (by decide) (hts _ w_59) (fun _ h9 => h9) rfl dX6_append_32 ?_
  refine lv_iconst (v := 1) hx hb dX6_append_35 (by decide) ?_
  refine lv_iadd hx hb dX6_append_36 ?_
  refine lv_topi (fun x_18 ex_18 => ?_)
  obtain rfl : x_18 = 15 := ex_18.trans (by decide +kernel)
  refine va_put (D := (dC, dI)) (ci := 6) (v := .int 15) (ty := tyX6 1) (C := RX6) (T := TX6) (N := 2) hx hb hts inA6 tyX6 tyX6_ok nmX6 hown hK hP hD hS 0 rfl rfl 1 (by decide) (hts _ w_59) (fun _ h9 => h9) rfl (tyX6_ok 1 (by decide)) rfl rfl (Nat.le_of_ble_eq_true rfl) dX6_append_37 (fun H locs hP hD hS => ?_)
  have hP : va_P (dC, dI) vwCl [(h0, .inr (6, [.ref tb, .int 15])), (tb, .inl (bk, 2400, .inl f_17))] H := hP
  have hD : va_D A [(h0, .inr (6, [.ref tb, .int 15])), (tb, .inl (bk, 2400, .inl f_17))] := hD
  refine lv_iinc (v := 0) (lv' := [(2, .int 0), (0, .ref h0), (1, .int a)]) hx hb dX6_append_40 hl (k := 0) rfl (by decide) (by decide) rfl (fun ls hl => ?_)
  refine lv_goto (tgt := 3) hx hb dX6_append_43 (by decide) ?_
  refine lv_iload_n hx hb dX6_append_3 rfl (lv_at hl 0 rfl) ?_
  refine lv_if_lt (tgt := 46) hx hb dX6_append_4 (by decide) (fun c_19 => absurd c_19 (by decide)) (fun c_19 => ?_)
  refine lv_aload_n hx hb dX6_append_7 rfl (lv_at hl 1 rfl) ?_
  refine va_get (D := (dC, dI)) (ci := 6) (v := .int 15) (C := RX6) (T := TX6) (N := 2) hx hb hts inA6 hown hK hP 0 rfl rfl 1 (by decide) (hts _ w_59) (fun _ h9 => h9) rfl dX6_append_8 ?_
  refine lv_sipush (v := 2400) hx hb dX6_append_11 (by decide) ?_
  refine lv_icmp_ge (tgt := 46) hx hb dX6_append_14 (by decide) (fun c_20 => absurd c_20 (by decide)) (fun c_20 => ?_)
  refine lv_aload_n hx hb dX6_append_17 rfl (lv_at hl 1 rfl) ?_
  refine va_get (D := (dC, dI)) (ci := 6) (v := .ref tb) (C := RX6) (T := TX6) (N := 2) hx hb hts inA6 hown hK hP 0 rfl rfl 0 (by decide) (hts _ w_58) (fun _ h9 => h9) rfl dX6_append_18 ?_
  refine lv_aload_n hx hb dX6_append_21 rfl (lv_at hl 1 rfl) ?_
  refine va_get (D := (dC, dI)) (ci := 6) (v := .int 15) (C := RX6) (T := TX6) (N := 2) hx hb hts inA6 hown hK hP 0 rfl rfl 1 (by decide) (hts _ w_59) (fun _ h9 => h9) rfl dX6_append_22 ?_
  refine lv_iload_n hx hb dX6_append_25 rfl (lv_at hl 2 rfl) ?_
  refine lv_iload_n hx hb dX6_append_26 rfl (lv_at hl 0 rfl) ?_
  refine lv_ishr hx hb dX6_append_27 ?_
  refine lv_topi (fun x_21 ex_21 => ?_)
  obtain ⟨y_22, ey_22⟩ : ∃ y : Int32, x_21.toInt8.toInt32 = y := ⟨_, rfl⟩
  refine lv_i2b (v := y_22) hx hb dX6_append_28 ey_22 ?_
  refine va_bast hx hb hK hP hD hS 1 0 rfl rfl (show vp_in 15 2400 from (by unfold vp_in; decide)) dX6_append_29 (fun H locs hP hD hS => ?_)
  rw [show (15 : Int32).toNatClampNeg = 15 from by decide] at hP hD
  generalize upd (f_17) 15 (vp_nar .byte y_22) = f_23 at hP hD
  have hP : va_P (dC, dI) vwCl [(h0, .inr (6, [.ref tb, .int 15])), (tb, .inl (bk, 2400, .inl f_23))] H := hP
  have hD : va_D A [(h0, .inr (6, [.ref tb, .int 15])), (tb, .inl (bk, 2400, .inl f_23))] := hD
  refine lv_aload_n hx hb dX6_append_30 rfl (lv_at hl 1 rfl) ?_
  refine lv_dup hx hb dX6_append_31 rfl ?_
  refine va_get (D := (dC, dI)) (ci := 6) (v := .int 15) (C := RX6) (T := TX6) (N := 2) hx hb hts inA6 hown hK hP 0 rfl rfl 1 (by decide) (hts _ w_59) (fun _ h9 => h9) rfl dX6_append_32 ?_
  refine lv_iconst (v := 1) hx hb dX6_append_35 (by decide) ?_
  refine lv_iadd hx hb dX6_append_36 ?_
  refine lv_topi (fun x_24 ex_24 => ?_)
  obtain rfl : x_24 = 16 := ex_24.trans (by decide +kernel)
  refine va_put (D := (dC, dI)) (ci := 6) (v := .int 16) (ty := tyX6 1) (C := RX6) (T := TX6) (N := 2) hx hb hts inA6 tyX6 tyX6_ok nmX6 hown hK hP hD hS 0 rfl rfl 1 (by decide) (hts _ w_59) (fun _ h9 => h9) rfl (tyX6_ok 1 (by decide)) rfl rfl (Nat.le_of_ble_eq_true rfl) dX6_append_37 (fun H locs hP hD hS => ?_)
  have hP : va_P (dC, dI) vwCl [(h0, .inr (6, [.ref tb, .int 16])), (tb, .inl (bk, 2400, .inl f_23))] H := hP
  have hD : va_D A [(h0, .inr (6, [.ref tb, .int 16])), (tb, .inl (bk, 2400, .inl f_23))] := hD
  refine lv_iinc (v := (-8)) (lv' := [(2, .int (-8)), (0, .ref h0), (1, .int a)]) hx hb dX6_append_40 hl (k := 0) rfl (by decide) (by decide) rfl (fun ls hl => ?_)
  refine lv_goto (tgt := 3) hx hb dX6_append_43 (by decide) ?_
  refine lv_iload_n hx hb dX6_append_3 rfl (lv_at hl 0 rfl) ?_
  refine lv_if_lt (tgt := 46) hx hb dX6_append_4 (by decide) (fun c_25 => ?_) (fun c_25 => absurd (by decide) c_25)
  have hP9 := hP.sub (ws' := [(h0, .inr (6, [.ref tb, .int 16])), (tb, .inl (bk, 2400, .inl f_23))]) [0, 1] rfl
  have hD9 := hD.sub (ws' := [(h0, .inr (6, [.ref tb, .int 16])), (tb, .inl (bk, 2400, .inl f_23))]) [0, 1] (by decide) rfl
  have hK9 := hK.sub (tys' := []) [] rfl
  exact W.vret hx hb hr (fun t ht hW => ⟨⟨(), rfl, trivial, f_23, by rw [ht]; exact hP9, va_K.moved hW.alike hK9, hD9⟩, hS.F ht⟩) hS.2.2 dX6_append_46
set_option maxHeartbeats 4000000 in
set_option maxRecDepth 100000 in
theorem c_append16 (l : Launch) (dC : Nat → ClassId) (dI : Nat → Nat → Nat) (sz : Nat) (h0 : Nat) (tb : Nat) (bk : ClassId) (bf : Nat → Int32) (a : Int32)  : Met l yX6_append (.code yX6_append cX6_append 3 none :: ALLW) ({ frames := 0, cells := 0, slots := 0, locals := 0 }) (va_Pc [.ref h0, .int a] (fun U => U.heap.size = sz ∧ va_P (dC, dI) vwCl [(h0, .inr (6, [.ref tb, .int 16])), (tb, .inl (bk, 2400, .inl bf))] U.heap ∧ va_K (dC, dI) vwCl [(bk, .byte)] U ∧ va_D (fun _ => True) [(h0, .inr (6, [.ref tb, .int 16])), (tb, .inl (bk, 2400, .inl bf))])) (va_Qv (fun _ : Unit => True) (fun (_ : Unit) (t : State) => ∃ (f_23 : Nat → Int32), va_P (dC, dI) vwCl [(h0, .inr (6, [.ref tb, .int 20])), (tb, .inl (bk, 2400, .inl f_23))] t.heap ∧ va_K (dC, dI) vwCl [] t ∧ va_D (va_A [(h0, .inr (6, [.ref tb, .int 16])), (tb, .inl (bk, 2400, .inl bf))] sz) [(h0, .inr (6, [.ref tb, .int 20])), (tb, .inl (bk, 2400, .inl f_23))]) (va_A [(h0, .inr (6, [.ref tb, .int 16])), (tb, .inl (bk, 2400, .inl bf))] sz)) 0 0 (va_A [(h0, .inr (6, [.ref tb, .int 16])), (tb, .inl (bk, 2400, .inl bf))] sz) := by
  refine Met.ofW (cc := cX6_append) (maxL := 3) (ret := none) (by decide) rfl ?_
  intro p e s m args below meth c s₁ B hml hv
  obtain ⟨rfl, hsz, hP, hK, hD0⟩ := hv
  have hx := B.exec
  have hb := B.bytes
  have hr := B.returns
  have hts0 := atoms_spec (ws := (.code yX6_append cX6_append 3 none :: ALLW)) B.pre
  have hts := fun (w : Cond) (h : w ∈ ALLW) => hts0 w (List.mem_cons_of_mem _ h)
  have hown : s.vm.findClass RX6 = some m.cls := findClass_of_methodNamed B.named
  have hlocks := B.notSynchronized
  subst hsz
  have hD := hD0.self (sz := s.heap.size)
  generalize hAe : va_A [(h0, .inr (6, [.ref tb, .int 16])), (tb, .inl (bk, 2400, .inl bf))] s.heap.size = A at hD ⊢
  have hA : ∀ q : Nat, s.heap.size ≤ q → A q := fun q h => by rw [← hAe]; exact Or.inr h
  have hS : va_S A s.heap s.heap [] := va_S.rf
  have hP : va_P (dC, dI) vwCl [(h0, .inr (6, [.ref tb, .int 16])), (tb, .inl (bk, 2400, .inl bf))] s.heap := hP
  have hl := lv_entry ([.ref h0, .int a]) (n := 3) (Nat.le_of_ble_eq_true rfl)
  rw [lg_entry_eq]
  generalize (lg_sl ([.ref h0, .int a]) ++ List.replicate (3 - (lg_sl ([.ref h0, .int a])).length) Slot.unset).toArray = ls at hl ⊢
  have hl : lv_has ls 3 [(0, .ref h0), (1, .int a)] := hl
  refine lv_bipush (v := 24) hx hb dX6_append_0 (by decide) ?_
  refine lv_istore_n (lv' := [(2, .int 24), (0, .ref h0), (1, .int a)]) hx hb dX6_append_2 rfl hl (by decide) rfl (fun ls hl => ?_)
  refine lv_iload_n hx hb dX6_append_3 rfl (lv_at hl 0 rfl) ?_
  refine lv_if_lt (tgt := 46) hx hb dX6_append_4 (by decide) (fun c_1 => absurd c_1 (by decide)) (fun c_1 => ?_)
  refine lv_aload_n hx hb dX6_append_7 rfl (lv_at hl 1 rfl) ?_
  refine va_get (D := (dC, dI)) (ci := 6) (v := .int 16) (C := RX6) (T := TX6) (N := 2) hx hb hts inA6 hown hK hP 0 rfl rfl 1 (by decide) (hts _ w_59) (fun _ h9 => h9) rfl dX6_append_8 ?_
  refine lv_sipush (v := 2400) hx hb dX6_append_11 (by decide) ?_
  refine lv_icmp_ge (tgt := 46) hx hb dX6_append_14 (by decide) (fun c_2 => absurd c_2 (by decide)) (fun c_2 => ?_)
  refine lv_aload_n hx hb dX6_append_17 rfl (lv_at hl 1 rfl) ?_
  refine va_get (D := (dC, dI)) (ci := 6) (v := .ref tb) (C := RX6) (T := TX6) (N := 2) hx hb hts inA6 hown hK hP 0 rfl rfl 0 (by decide) (hts _ w_58) (fun _ h9 => h9) rfl dX6_append_18 ?_
  refine lv_aload_n hx hb dX6_append_21 rfl (lv_at hl 1 rfl) ?_
  refine va_get (D := (dC, dI)) (ci := 6) (v := .int 16) (C := RX6) (T := TX6) (N := 2) hx hb hts inA6 hown hK hP 0 rfl rfl 1 (by decide) (hts _ w_59) (fun _ h9 => h9) rfl dX6_append_22 ?_
  refine lv_iload_n hx hb dX6_append_25 rfl (lv_at hl 2 rfl) ?_
  refine lv_iload_n hx hb dX6_append_26 rfl (lv_at hl 0 rfl) ?_
  refine lv_ishr hx hb dX6_append_27 ?_
  refine lv_topi (fun x_3 ex_3 => ?_)
  obtain ⟨y_4, ey_4⟩ : ∃ y : Int32, x_3.toInt8.toInt32 = y := ⟨_, rfl⟩
  refine lv_i2b (v := y_4) hx hb dX6_append_28 ey_4 ?_
  refine va_bast hx hb hK hP hD hS 1 0 rfl rfl (show vp_in 16 2400 from (by unfold vp_in; decide)) dX6_append_29 (fun H locs hP hD hS => ?_)
  rw [show (16 : Int32).toNatClampNeg = 16 from by decide] at hP hD
  generalize upd (bf) 16 (vp_nar .byte y_4) = f_5 at hP hD
  have hP : va_P (dC, dI) vwCl [(h0, .inr (6, [.ref tb, .int 16])), (tb, .inl (bk, 2400, .inl f_5))] H := hP
  have hD : va_D A [(h0, .inr (6, [.ref tb, .int 16])), (tb, .inl (bk, 2400, .inl f_5))] := hD
  refine lv_aload_n hx hb dX6_append_30 rfl (lv_at hl 1 rfl) ?_
  refine lv_dup hx hb dX6_append_31 rfl ?_
  refine va_get (D := (dC, dI)) (ci := 6) (v := .int 16) (C := RX6) (T := TX6) (N := 2) hx hb hts inA6 hown hK hP 0 rfl rfl 1 (by decide) (hts _ w_59) (fun _ h9 => h9) rfl dX6_append_32 ?_
  refine lv_iconst (v := 1) hx hb dX6_append_35 (by decide) ?_
  refine lv_iadd hx hb dX6_append_36 ?_
  refine lv_topi (fun x_6 ex_6 => ?_)
  obtain rfl : x_6 = 17 := ex_6.trans (by decide +kernel)
  refine va_put (D := (dC, dI)) (ci := 6) (v := .int 17) (ty := tyX6 1) (C := RX6) (T := TX6) (N := 2) hx hb hts inA6 tyX6 tyX6_ok nmX6 hown hK hP hD hS 0 rfl rfl 1 (by decide) (hts _ w_59) (fun _ h9 => h9) rfl (tyX6_ok 1 (by decide)) rfl rfl (Nat.le_of_ble_eq_true rfl) dX6_append_37 (fun H locs hP hD hS => ?_)
  have hP : va_P (dC, dI) vwCl [(h0, .inr (6, [.ref tb, .int 17])), (tb, .inl (bk, 2400, .inl f_5))] H := hP
  have hD : va_D A [(h0, .inr (6, [.ref tb, .int 17])), (tb, .inl (bk, 2400, .inl f_5))] := hD
  refine lv_iinc (v := 16) (lv' := [(2, .int 16), (0, .ref h0), (1, .int a)]) hx hb dX6_append_40 hl (k := 0) rfl (by decide) (by decide) rfl (fun ls hl => ?_)
  refine lv_goto (tgt := 3) hx hb dX6_append_43 (by decide) ?_
  refine lv_iload_n hx hb dX6_append_3 rfl (lv_at hl 0 rfl) ?_
  refine lv_if_lt (tgt := 46) hx hb dX6_append_4 (by decide) (fun c_7 => absurd c_7 (by decide)) (fun c_7 => ?_)
  refine lv_aload_n hx hb dX6_append_7 rfl (lv_at hl 1 rfl) ?_
  refine va_get (D := (dC, dI)) (ci := 6) (v := .int 17) (C := RX6) (T := TX6) (N := 2) hx hb hts inA6 hown hK hP 0 rfl rfl 1 (by decide) (hts _ w_59) (fun _ h9 => h9) rfl dX6_append_8 ?_
  refine lv_sipush (v := 2400) hx hb dX6_append_11 (by decide) ?_
  refine lv_icmp_ge (tgt := 46) hx hb dX6_append_14 (by decide) (fun c_8 => absurd c_8 (by decide)) (fun c_8 => ?_)
  refine lv_aload_n hx hb dX6_append_17 rfl (lv_at hl 1 rfl) ?_
  refine va_get (D := (dC, dI)) (ci := 6) (v := .ref tb) (C := RX6) (T := TX6) (N := 2) hx hb hts inA6 hown hK hP 0 rfl rfl 0 (by decide) (hts _ w_58) (fun _ h9 => h9) rfl dX6_append_18 ?_
  refine lv_aload_n hx hb dX6_append_21 rfl (lv_at hl 1 rfl) ?_
  refine va_get (D := (dC, dI)) (ci := 6) (v := .int 17) (C := RX6) (T := TX6) (N := 2) hx hb hts inA6 hown hK hP 0 rfl rfl 1 (by decide) (hts _ w_59) (fun _ h9 => h9) rfl dX6_append_22 ?_
  refine lv_iload_n hx hb dX6_append_25 rfl (lv_at hl 2 rfl) ?_
  refine lv_iload_n hx hb dX6_append_26 rfl (lv_at hl 0 rfl) ?_
  refine lv_ishr hx hb dX6_append_27 ?_
  refine lv_topi (fun x_9 ex_9 => ?_)
  obtain ⟨y_10, ey_10⟩ : ∃ y : Int32, x_9.toInt8.toInt32 = y := ⟨_, rfl⟩
  refine lv_i2b (v := y_10) hx hb dX6_append_28 ey_10 ?_
  refine va_bast hx hb hK hP hD hS 1 0 rfl rfl (show vp_in 17 2400 from (by unfold vp_in; decide)) dX6_append_29 (fun H locs hP hD hS => ?_)
  rw [show (17 : Int32).toNatClampNeg = 17 from by decide] at hP hD
  generalize upd (f_5) 17 (vp_nar .byte y_10) = f_11 at hP hD
  have hP : va_P (dC, dI) vwCl [(h0, .inr (6, [.ref tb, .int 17])), (tb, .inl (bk, 2400, .inl f_11))] H := hP
  have hD : va_D A [(h0, .inr (6, [.ref tb, .int 17])), (tb, .inl (bk, 2400, .inl f_11))] := hD
  refine lv_aload_n hx hb dX6_append_30 rfl (lv_at hl 1 rfl) ?_
  refine lv_dup hx hb dX6_append_31 rfl ?_
  refine va_get (D := (dC, dI)) (ci := 6) (v := .int 17) (C := RX6) (T := TX6) (N := 2) hx hb hts inA6 hown hK hP 0 rfl rfl 1 (by decide) (hts _ w_59) (fun _ h9 => h9) rfl dX6_append_32 ?_
  refine lv_iconst (v := 1) hx hb dX6_append_35 (by decide) ?_
  refine lv_iadd hx hb dX6_append_36 ?_
  refine lv_topi (fun x_12 ex_12 => ?_)
  obtain rfl : x_12 = 18 := ex_12.trans (by decide +kernel)
  refine va_put (D := (dC, dI)) (ci := 6) (v := .int 18) (ty := tyX6 1) (C := RX6) (T := TX6) (N := 2) hx hb hts inA6 tyX6 tyX6_ok nmX6 hown hK hP hD hS 0 rfl rfl 1 (by decide) (hts _ w_59) (fun _ h9 => h9) rfl (tyX6_ok 1 (by decide)) rfl rfl (Nat.le_of_ble_eq_true rfl) dX6_append_37 (fun H locs hP hD hS => ?_)
  have hP : va_P (dC, dI) vwCl [(h0, .inr (6, [.ref tb, .int 18])), (tb, .inl (bk, 2400, .inl f_11))] H := hP
  have hD : va_D A [(h0, .inr (6, [.ref tb, .int 18])), (tb, .inl (bk, 2400, .inl f_11))] := hD
  refine lv_iinc (v := 8) (lv' := [(2, .int 8), (0, .ref h0), (1, .int a)]) hx hb dX6_append_40 hl (k := 0) rfl (by decide) (by decide) rfl (fun ls hl => ?_)
  refine lv_goto (tgt := 3) hx hb dX6_append_43 (by decide) ?_
  refine lv_iload_n hx hb dX6_append_3 rfl (lv_at hl 0 rfl) ?_
  refine lv_if_lt (tgt := 46) hx hb dX6_append_4 (by decide) (fun c_13 => absurd c_13 (by decide)) (fun c_13 => ?_)
  refine lv_aload_n hx hb dX6_append_7 rfl (lv_at hl 1 rfl) ?_
  refine va_get (D := (dC, dI)) (ci := 6) (v := .int 18) (C := RX6) (T := TX6) (N := 2) hx hb hts inA6 hown hK hP 0 rfl rfl 1 (by decide) (hts _ w_59) (fun _ h9 => h9) rfl dX6_append_8 ?_
  refine lv_sipush (v := 2400) hx hb dX6_append_11 (by decide) ?_
  refine lv_icmp_ge (tgt := 46) hx hb dX6_append_14 (by decide) (fun c_14 => absurd c_14 (by decide)) (fun c_14 => ?_)
  refine lv_aload_n hx hb dX6_append_17 rfl (lv_at hl 1 rfl) ?_
  refine va_get (D := (dC, dI)) (ci := 6) (v := .ref tb) (C := RX6) (T := TX6) (N := 2) hx hb hts inA6 hown hK hP 0 rfl rfl 0 (by decide) (hts _ w_58) (fun _ h9 => h9) rfl dX6_append_18 ?_
  refine lv_aload_n hx hb dX6_append_21 rfl (lv_at hl 1 rfl) ?_
  refine va_get (D := (dC, dI)) (ci := 6) (v := .int 18) (C := RX6) (T := TX6) (N := 2) hx hb hts inA6 hown hK hP 0 rfl rfl 1 (by decide) (hts _ w_59) (fun _ h9 => h9) rfl dX6_append_22 ?_
  refine lv_iload_n hx hb dX6_append_25 rfl (lv_at hl 2 rfl) ?_
  refine lv_iload_n hx hb dX6_append_26 rfl (lv_at hl 0 rfl) ?_
  refine lv_ishr hx hb dX6_append_27 ?_
  refine lv_topi (fun x_15 ex_15 => ?_)
  obtain ⟨y_16, ey_16⟩ : ∃ y : Int32, x_15.toInt8.toInt32 = y := ⟨_, rfl⟩
  refine lv_i2b (v := y_16) hx hb dX6_append_28 ey_16 ?_
  refine va_bast hx hb hK hP hD hS 1 0 rfl rfl (show vp_in 18 2400 from (by unfold vp_in; decide)) dX6_append_29 (fun H locs hP hD hS => ?_)
  rw [show (18 : Int32).toNatClampNeg = 18 from by decide] at hP hD
  generalize upd (f_11) 18 (vp_nar .byte y_16) = f_17 at hP hD
  have hP : va_P (dC, dI) vwCl [(h0, .inr (6, [.ref tb, .int 18])), (tb, .inl (bk, 2400, .inl f_17))] H := hP
  have hD : va_D A [(h0, .inr (6, [.ref tb, .int 18])), (tb, .inl (bk, 2400, .inl f_17))] := hD
  refine lv_aload_n hx hb dX6_append_30 rfl (lv_at hl 1 rfl) ?_
  refine lv_dup hx hb dX6_append_31 rfl ?_
  refine va_get (D := (dC, dI)) (ci := 6) (v := .int 18) (C := RX6) (T := TX6) (N := 2) hx hb hts inA6 hown hK hP 0 rfl rfl 1 (by decide) (hts _ w_59) (fun _ h9 => h9) rfl dX6_append_32 ?_
  refine lv_iconst (v := 1) hx hb dX6_append_35 (by decide) ?_
  refine lv_iadd hx hb dX6_append_36 ?_
  refine lv_topi (fun x_18 ex_18 => ?_)
  obtain rfl : x_18 = 19 := ex_18.trans (by decide +kernel)
  refine va_put (D := (dC, dI)) (ci := 6) (v := .int 19) (ty := tyX6 1) (C := RX6) (T := TX6) (N := 2) hx hb hts inA6 tyX6 tyX6_ok nmX6 hown hK hP hD hS 0 rfl rfl 1 (by decide) (hts _ w_59) (fun _ h9 => h9) rfl (tyX6_ok 1 (by decide)) rfl rfl (Nat.le_of_ble_eq_true rfl) dX6_append_37 (fun H locs hP hD hS => ?_)
  have hP : va_P (dC, dI) vwCl [(h0, .inr (6, [.ref tb, .int 19])), (tb, .inl (bk, 2400, .inl f_17))] H := hP
  have hD : va_D A [(h0, .inr (6, [.ref tb, .int 19])), (tb, .inl (bk, 2400, .inl f_17))] := hD
  refine lv_iinc (v := 0) (lv' := [(2, .int 0), (0, .ref h0), (1, .int a)]) hx hb dX6_append_40 hl (k := 0) rfl (by decide) (by decide) rfl (fun ls hl => ?_)
  refine lv_goto (tgt := 3) hx hb dX6_append_43 (by decide) ?_
  refine lv_iload_n hx hb dX6_append_3 rfl (lv_at hl 0 rfl) ?_
  refine lv_if_lt (tgt := 46) hx hb dX6_append_4 (by decide) (fun c_19 => absurd c_19 (by decide)) (fun c_19 => ?_)
  refine lv_aload_n hx hb dX6_append_7 rfl (lv_at hl 1 rfl) ?_
  refine va_get (D := (dC, dI)) (ci := 6) (v := .int 19) (C := RX6) (T := TX6) (N := 2) hx hb hts inA6 hown hK hP 0 rfl rfl 1 (by decide) (hts _ w_59) (fun _ h9 => h9) rfl dX6_append_8 ?_
  refine lv_sipush (v := 2400) hx hb dX6_append_11 (by decide) ?_
  refine lv_icmp_ge (tgt := 46) hx hb dX6_append_14 (by decide) (fun c_20 => absurd c_20 (by decide)) (fun c_20 => ?_)
  refine lv_aload_n hx hb dX6_append_17 rfl (lv_at hl 1 rfl) ?_
  refine va_get (D := (dC, dI)) (ci := 6) (v := .ref tb) (C := RX6) (T := TX6) (N := 2) hx hb hts inA6 hown hK hP 0 rfl rfl 0 (by decide) (hts _ w_58) (fun _ h9 => h9) rfl dX6_append_18 ?_
  refine lv_aload_n hx hb dX6_append_21 rfl (lv_at hl 1 rfl) ?_
  refine va_get (D := (dC, dI)) (ci := 6) (v := .int 19) (C := RX6) (T := TX6) (N := 2) hx hb hts inA6 hown hK hP 0 rfl rfl 1 (by decide) (hts _ w_59) (fun _ h9 => h9) rfl dX6_append_22 ?_
  refine lv_iload_n hx hb dX6_append_25 rfl (lv_at hl 2 rfl) ?_
  refine lv_iload_n hx hb dX6_append_26 rfl (lv_at hl 0 rfl) ?_
  refine lv_ishr hx hb dX6_append_27 ?_
  refine lv_topi (fun x_21 ex_21 => ?_)
  obtain ⟨y_22, ey_22⟩ : ∃ y : Int32, x_21.toInt8.toInt32 = y := ⟨_, rfl⟩
  refine lv_i2b (v := y_22) hx hb dX6_append_28 ey_22 ?_
  refine va_bast hx hb hK hP hD hS 1 0 rfl rfl (show vp_in 19 2400 from (by unfold vp_in; decide)) dX6_append_29 (fun H locs hP hD hS => ?_)
  rw [show (19 : Int32).toNatClampNeg = 19 from by decide] at hP hD
  generalize upd (f_17) 19 (vp_nar .byte y_22) = f_23 at hP hD
  have hP : va_P (dC, dI) vwCl [(h0, .inr (6, [.ref tb, .int 19])), (tb, .inl (bk, 2400, .inl f_23))] H := hP
  have hD : va_D A [(h0, .inr (6, [.ref tb, .int 19])), (tb, .inl (bk, 2400, .inl f_23))] := hD
  refine lv_aload_n hx hb dX6_append_30 rfl (lv_at hl 1 rfl) ?_
  refine lv_dup hx hb dX6_append_31 rfl ?_
  refine va_get (D := (dC, dI)) (ci := 6) (v := .int 19) (C := RX6) (T := TX6) (N := 2) hx hb hts inA6 hown hK hP 0 rfl rfl 1 (by decide) (hts _ w_59) (fun _ h9 => h9) rfl dX6_append_32 ?_
  refine lv_iconst (v := 1) hx hb dX6_append_35 (by decide) ?_
  refine lv_iadd hx hb dX6_append_36 ?_
  refine lv_topi (fun x_24 ex_24 => ?_)
  obtain rfl : x_24 = 20 := ex_24.trans (by decide +kernel)
  refine va_put (D := (dC, dI)) (ci := 6) (v := .int 20) (ty := tyX6 1) (C := RX6) (T := TX6) (N := 2) hx hb hts inA6 tyX6 tyX6_ok nmX6 hown hK hP hD hS 0 rfl rfl 1 (by decide) (hts _ w_59) (fun _ h9 => h9) rfl (tyX6_ok 1 (by decide)) rfl rfl (Nat.le_of_ble_eq_true rfl) dX6_append_37 (fun H locs hP hD hS => ?_)
  have hP : va_P (dC, dI) vwCl [(h0, .inr (6, [.ref tb, .int 20])), (tb, .inl (bk, 2400, .inl f_23))] H := hP
  have hD : va_D A [(h0, .inr (6, [.ref tb, .int 20])), (tb, .inl (bk, 2400, .inl f_23))] := hD
  refine lv_iinc (v := (-8)) (lv' := [(2, .int (-8)), (0, .ref h0), (1, .int a)]) hx hb dX6_append_40 hl (k := 0) rfl (by decide) (by decide) rfl (fun ls hl => ?_)
  refine lv_goto (tgt := 3) hx hb dX6_append_43 (by decide) ?_
  refine lv_iload_n hx hb dX6_append_3 rfl (lv_at hl 0 rfl) ?_
  refine lv_if_lt (tgt := 46) hx hb dX6_append_4 (by decide) (fun c_25 => ?_) (fun c_25 => absurd (by decide) c_25)
  have hP9 := hP.sub (ws' := [(h0, .inr (6, [.ref tb, .int 20])), (tb, .inl (bk, 2400, .inl f_23))]) [0, 1] rfl
  have hD9 := hD.sub (ws' := [(h0, .inr (6, [.ref tb, .int 20])), (tb, .inl (bk, 2400, .inl f_23))]) [0, 1] (by decide) rfl
  have hK9 := hK.sub (tys' := []) [] rfl
  exact W.vret hx hb hr (fun t ht hW => ⟨⟨(), rfl, trivial, f_23, by rw [ht]; exact hP9, va_K.moved hW.alike hK9, hD9⟩, hS.F ht⟩) hS.2.2 dX6_append_46
set_option maxHeartbeats 4000000 in
set_option maxRecDepth 100000 in
theorem c_at0 (l : Launch) (dC : Nat → ClassId) (dI : Nat → Nat → Nat) (sz : Nat) (h0 : Nat) (tb : Nat)  : Met l yX6_at (.code yX6_at cX6_at 2 (some .int) :: ALLW) ({ frames := 0, cells := 0, slots := 0, locals := 0 }) (va_Pc [.ref h0, .int 0] (fun U => U.heap.size = sz ∧ va_P (dC, dI) vwCl [(h0, .inr (6, [.ref tb, .int 0]))] U.heap ∧ va_K (dC, dI) vwCl [] U ∧ va_D (fun _ => True) [(h0, .inr (6, [.ref tb, .int 0]))])) (va_Qi (fun (r : Int32) (_ : Unit) => r = (-1)) (fun (_ : Unit) (t : State) => va_P (dC, dI) vwCl [(h0, .inr (6, [.ref tb, .int 0]))] t.heap ∧ va_K (dC, dI) vwCl [] t ∧ va_D (va_A [(h0, .inr (6, [.ref tb, .int 0]))] sz) [(h0, .inr (6, [.ref tb, .int 0]))]) (va_A [(h0, .inr (6, [.ref tb, .int 0]))] sz)) 0 0 (va_A [(h0, .inr (6, [.ref tb, .int 0]))] sz) := by
  refine Met.ofW (cc := cX6_at) (maxL := 2) (ret := (some .int)) (by decide) rfl ?_
  intro p e s m args below meth c s₁ B hml hv
  obtain ⟨rfl, hsz, hP, hK, hD0⟩ := hv
  have hx := B.exec
  have hb := B.bytes
  have hr := B.returns
  have hts0 := atoms_spec (ws := (.code yX6_at cX6_at 2 (some .int) :: ALLW)) B.pre
  have hts := fun (w : Cond) (h : w ∈ ALLW) => hts0 w (List.mem_cons_of_mem _ h)
  have hown : s.vm.findClass RX6 = some m.cls := findClass_of_methodNamed B.named
  have hlocks := B.notSynchronized
  subst hsz
  have hD := hD0.self (sz := s.heap.size)
  generalize hAe : va_A [(h0, .inr (6, [.ref tb, .int 0]))] s.heap.size = A at hD ⊢
  have hA : ∀ q : Nat, s.heap.size ≤ q → A q := fun q h => by rw [← hAe]; exact Or.inr h
  have hS : va_S A s.heap s.heap [] := va_S.rf
  have hP : va_P (dC, dI) vwCl [(h0, .inr (6, [.ref tb, .int 0]))] s.heap := hP
  have hl := lv_entry ([.ref h0, .int 0]) (n := 2) (Nat.le_of_ble_eq_true rfl)
  rw [lg_entry_eq]
  generalize (lg_sl ([.ref h0, .int 0]) ++ List.replicate (2 - (lg_sl ([.ref h0, .int 0])).length) Slot.unset).toArray = ls at hl ⊢
  have hl : lv_has ls 2 [(0, .ref h0), (1, .int 0)] := hl
  refine lv_iload_n hx hb dX6_at_0 rfl (lv_at hl 1 rfl) ?_
  refine lv_if_lt (tgt := 32) hx hb dX6_at_1 (by decide) (fun c_1 => absurd c_1 (by decide)) (fun c_1 => ?_)
  refine lv_iload_n hx hb dX6_at_4 rfl (lv_at hl 1 rfl) ?_
  refine lv_aload_n hx hb dX6_at_5 rfl (lv_at hl 0 rfl) ?_
  refine va_get (D := (dC, dI)) (ci := 6) (v := .int 0) (C := RX6) (T := TX6) (N := 2) hx hb hts inA6 hown hK hP 0 rfl rfl 1 (by decide) (hts _ w_59) (fun _ h9 => h9) rfl dX6_at_6 ?_
  refine lv_icmp_ge (tgt := 32) hx hb dX6_at_9 (by decide) (fun c_2 => ?_) (fun c_2 => absurd (by decide) c_2)
  refine lv_iconst (v := (-1)) hx hb dX6_at_32 (by decide) ?_
  have hP9 := hP.sub (ws' := [(h0, .inr (6, [.ref tb, .int 0]))]) [0] rfl
  have hD9 := hD.sub (ws' := [(h0, .inr (6, [.ref tb, .int 0]))]) [0] (by decide) rfl
  have hK9 := hK.sub (tys' := []) [] rfl
  exact W.iret (v := (-1)) hx hb hr (fun t ht hW => ⟨⟨(-1), (), rfl, rfl, by rw [ht]; exact hP9, va_K.moved hW.alike hK9, hD9⟩, hS.F ht⟩) hS.2.2 dX6_at_33
