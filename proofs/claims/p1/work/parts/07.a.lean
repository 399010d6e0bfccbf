set_option maxHeartbeats 4000000 in
set_option maxRecDepth 100000 in
theorem c_Tape (l : Launch) (dC : Nat → ClassId) (dI : Nat → Nat → Nat) (sz : Nat) (h0 : Nat)  : Met l yX6_init (.code yX6_init cX6_init 1 none :: ALLW) ({ frames := 1, cells := 1, slots := 2400, locals := 24 }) (va_Pc [.ref h0] (fun U => U.heap.size = sz ∧ va_P (dC, dI) vwCl [(h0, .inr (6, [.null, .int 0]))] U.heap ∧ va_K (dC, dI) vwCl [] U ∧ va_D (fun _ => True) [(h0, .inr (6, [.null, .int 0]))])) (va_Qv (fun _ : Unit => True) (fun (_ : Unit) (t : State) => ∃ (q_1 : Nat) (k_2 : ClassId), va_P (dC, dI) vwCl [(h0, .inr (6, [.ref q_1, .int 0])), (q_1, .inl (k_2, 2400, .inl (fun _ => 0)))] t.heap ∧ va_K (dC, dI) vwCl [(k_2, .byte)] t ∧ va_D (va_A [(h0, .inr (6, [.null, .int 0]))] sz) [(h0, .inr (6, [.ref q_1, .int 0])), (q_1, .inl (k_2, 2400, .inl (fun _ => 0)))]) (va_A [(h0, .inr (6, [.null, .int 0]))] sz)) 1 2400 (va_A [(h0, .inr (6, [.null, .int 0]))] sz) := by
  refine Met.ofW (cc := cX6_init) (maxL := 1) (ret := none) (by decide) rfl ?_
  intro p e s m args below meth c s₁ B hml hv
  obtain ⟨rfl, hsz, hP, hK, hD0⟩ := hv
  have hx := B.exec
  have hb := B.bytes
  have hr := B.returns
  have hts0 := atoms_spec (ws := (.code yX6_init cX6_init 1 none :: ALLW)) B.pre
  have hts := fun (w : Cond) (h : w ∈ ALLW) => hts0 w (List.mem_cons_of_mem _ h)
  have hown : s.vm.findClass RX6 = some m.cls := findClass_of_methodNamed B.named
  have hlocks := B.notSynchronized
  have hin : meth.name = "<init>" := (name_of_methodNamed B.named B.method).1
  subst hsz
  have hD := hD0.self (sz := s.heap.size)
  generalize hAe : va_A [(h0, .inr (6, [.null, .int 0]))] s.heap.size = A at hD ⊢
  have hA : ∀ q : Nat, s.heap.size ≤ q → A q := fun q h => by rw [← hAe]; exact Or.inr h
  have hS : va_S A s.heap s.heap [] := va_S.rf
  have hP : va_P (dC, dI) vwCl [(h0, .inr (6, [.null, .int 0]))] s.heap := hP
  have hl := lv_entry ([.ref h0]) (n := 1) (Nat.le_of_ble_eq_true rfl)
  rw [lg_entry_eq]
  generalize (lg_sl ([.ref h0]) ++ List.replicate (1 - (lg_sl ([.ref h0])).length) Slot.unset).toArray = ls at hl ⊢
  have hl : lv_has ls 1 [(0, .ref h0)] := hl
  refine lv_aload_n hx hb dX6_init_0 rfl (lv_at hl 0 rfl) ?_
  refine W.objInit hx hb hown (hts _ w_56) (hts _ w_11) (hts _ w_12) rfl (by rw [hml]; exact hl.1) rfl dX6_init_1 (Nat.le_of_ble_eq_true rfl) (Nat.le_of_ble_eq_true rfl) ?_
  refine W.eq (g2 := F0 m 4 ls []) rfl ?_
  refine lv_aload_n hx hb dX6_init_4 rfl (lv_at hl 0 rfl) ?_
  refine lv_sipush (v := 2400) hx hb dX6_init_5 (by decide) ?_
  refine va_newa (atype := .byte) (ty := .byte) (a0 := (2400, .inl (fun _ => 0))) (N' := 2400) hx hb (hts _ w_57) rfl hK hP hD hS hA (fun _ => rfl) (by decide +kernel) (by decide +kernel) (by decide +kernel) (Nat.le_of_ble_eq_true rfl) (Nat.le_of_ble_eq_true rfl) dX6_init_8 (fun q_1 k_2 H hK hP hD hS => ?_)
  have hK : va_K (dC, dI) vwCl [(k_2, .byte)] s := hK
  have hP : va_P (dC, dI) vwCl [(h0, .inr (6, [.null, .int 0])), (q_1, .inl (k_2, 2400, .inl (fun _ => 0)))] H := hP
  have hD : va_D A [(h0, .inr (6, [.null, .int 0])), (q_1, .inl (k_2, 2400, .inl (fun _ => 0)))] := hD
  refine W.widen (k := 1) (n := 2400) (by decide) (by decide) ?_
  refine va_putF (D := (dC, dI)) (ci := 6) (v := .ref q_1) (ty := tyX6 0) (C := RX6) (T := TX6) (N := 2) hx hb hts inA6 tyX6 tyX6_ok nmX6 hown hK hP hD hS 0 rfl rfl 0 (by decide) (hts _ w_58) (fun _ h9 => h9) rfl hin rfl (tyX6_ok 0 (by decide)) rfl rfl (Nat.le_of_ble_eq_true rfl) dX6_init_10 (fun H locs hP hD hS => ?_)
  have hP : va_P (dC, dI) vwCl [(h0, .inr (6, [.ref q_1, .int 0])), (q_1, .inl (k_2, 2400, .inl (fun _ => 0)))] H := hP
  have hD : va_D A [(h0, .inr (6, [.ref q_1, .int 0])), (q_1, .inl (k_2, 2400, .inl (fun _ => 0)))] := hD
  refine lv_aload_n hx hb dX6_init_13 rfl (lv_at hl 0 rfl) ?_
  refine lv_iconst (v := 0) hx hb dX6_init_14 (by decide) ?_
  refine va_put (D := (dC, dI)) (ci := 6) (v := .int 0) (ty := tyX6 1) (C := RX6) (T := TX6) (N := 2) hx hb hts inA6 tyX6 tyX6_ok nmX6 hown hK hP hD hS 0 rfl rfl 1 (by decide) (hts _ w_59) (fun _ h9 => h9) rfl (tyX6_ok 1 (by decide)) rfl rfl (Nat.le_of_ble_eq_true rfl) dX6_init_15 (fun H locs hP hD hS => ?_)
  have hP : va_P (dC, dI) vwCl [(h0, .inr (6, [.ref q_1, .int 0])), (q_1, .inl (k_2, 2400, .inl (fun _ => 0)))] H := hP
  have hD : va_D A [(h0, .inr (6, [.ref q_1, .int 0])), (q_1, .inl (k_2, 2400, .inl (fun _ => 0)))] := hD
  have hP9 := hP.sub (ws' := [(h0, .inr (6, [.ref q_1, .int 0])), (q_1, .inl (k_2, 2400, .inl (fun _ => 0)))]) [0, 1] rfl
  have hD9 := hD.sub (ws' := [(h0, .inr (6, [.ref q_1, .int 0])), (q_1, .inl (k_2, 2400, .inl (fun _ => 0)))]) [0, 1] (by decide) rfl
  have hK9 := hK.sub (tys' := [(k_2, .byte)]) [0] rfl
  exact W.vret hx hb hr (fun t ht hW => ⟨⟨(), rfl, trivial, q_1, k_2, by rw [ht]; exact hP9, va_K.moved hW.alike hK9, hD9⟩, hS.F ht⟩) hS.2.2 dX6_init_18
set_option maxHeartbeats 4000000 in
set_option maxRecDepth 100000 in
theorem c_hasRoom (l : Launch) (dC : Nat → ClassId) (dI : Nat → Nat → Nat) (sz : Nat) (h0 : Nat) (tb : Nat)  : Met l yX6_hasRoom (.code yX6_hasRoom cX6_hasRoom 1 (some .boolean) :: ALLW) ({ frames := 0, cells := 0, slots := 0, locals := 0 }) (va_Pc [.ref h0] (fun U => U.heap.size = sz ∧ va_P (dC, dI) vwCl [(h0, .inr (6, [.ref tb, .int 0]))] U.heap ∧ va_K (dC, dI) vwCl [] U ∧ va_D (fun _ => True) [(h0, .inr (6, [.ref tb, .int 0]))])) (va_Qi (fun (r : Int32) (_ : Unit) => r = 1) (fun (_ : Unit) (t : State) => va_P (dC, dI) vwCl [(h0, .inr (6, [.ref tb, .int 0]))] t.heap ∧ va_K (dC, dI) vwCl [] t ∧ va_D (va_A [(h0, .inr (6, [.ref tb, .int 0]))] sz) [(h0, .inr (6, [.ref tb, .int 0]))]) (va_A [(h0, .inr (6, [.ref tb, .int 0]))] sz)) 0 0 (va_A [(h0, .inr (6, [.ref tb, .int 0]))] sz) := by
  refine Met.ofW (cc := cX6_hasRoom) (maxL := 1) (ret := (some .boolean)) (by decide) rfl ?_
  intro p e s m args below meth c s₁ B hml hv
  obtain ⟨rfl, hsz, hP, hK, hD0⟩ := hv
  have hx := B.exec
  have hb := B.bytes
  have hr := B.returns
  have hts0 := atoms_spec (ws := (.code yX6_hasRoom cX6_hasRoom 1 (some .boolean) :: ALLW)) B.pre
  have hts := fun (w : Cond) (h : w ∈ ALLW) => hts0 w (List.mem_cons_of_mem _ h)
  have hown : s.vm.findClass RX6 = some m.cls := findClass_of_methodNamed B.named
  have hlocks := B.notSynchronized
  subst hsz
  have hD := hD0.self (sz := s.heap.size)
  generalize hAe : va_A [(h0, .inr (6, [.ref tb, .int 0]))] s.heap.size = A at hD ⊢
  have hA : ∀ q : Nat, s.heap.size ≤ q → A q := fun q h => by rw [← hAe]; exact Or.inr h
  have hS : va_S A s.heap s.heap [] := va_S.rf
  have hP : va_P (dC, dI) vwCl [(h0, .inr (6, [.ref tb, .int 0]))] s.heap := hP
  have hl := lv_entry ([.ref h0]) (n := 1) (Nat.le_of_ble_eq_true rfl)
  rw [lg_entry_eq]
  generalize (lg_sl ([.ref h0]) ++ List.replicate (1 - (lg_sl ([.ref h0])).length) Slot.unset).toArray = ls at hl ⊢
  have hl : lv_has ls 1 [(0, .ref h0)] := hl
  refine lv_aload_n hx hb dX6_hasRoom_0 rfl (lv_at hl 0 rfl) ?_
  refine va_get (D := (dC, dI)) (ci := 6) (v := .int 0) (C := RX6) (T := TX6) (N := 2) hx hb hts inA6 hown hK hP 0 rfl rfl 1 (by decide) (hts _ w_59) (fun _ h9 => h9) rfl dX6_hasRoom_1 ?_
  refine lv_bipush (v := 20) hx hb dX6_hasRoom_4 (by decide) ?_
  refine lv_iadd hx hb dX6_hasRoom_6 ?_
  refine lv_topi (fun x_1 ex_1 => ?_)
  obtain rfl : x_1 = 20 := ex_1.trans (by decide +kernel)
  refine lv_sipush (v := 2400) hx hb dX6_hasRoom_7 (by decide) ?_
  refine lv_icmp_gt (tgt := 17) hx hb dX6_hasRoom_10 (by decide) (fun c_2 => absurd c_2 (by decide)) (fun c_2 => ?_)
  refine lv_iconst (v := 1) hx hb dX6_hasRoom_13 (by decide) ?_
  refine lv_goto (tgt := 18) hx hb dX6_hasRoom_14 (by decide) ?_
  have hP9 := hP.sub (ws' := [(h0, .inr (6, [.ref tb, .int 0]))]) [0] rfl
  have hD9 := hD.sub (ws' := [(h0, .inr (6, [.ref tb, .int 0]))]) [0] (by decide) rfl
  have hK9 := hK.sub (tys' := []) [] rfl
  exact W.zret (v := 1) hx hb hr (by decide) (fun t ht hW => ⟨⟨1, (), rfl, rfl, by rw [ht]; exact hP9, va_K.moved hW.alike hK9, hD9⟩, hS.F ht⟩) hS.2.2 dX6_hasRoom_18
set_option maxHeartbeats 4000000 in
set_option maxRecDepth 100000 in
theorem c_append0 (l : Launch) (dC : Nat → ClassId) (dI : Nat → Nat → Nat) (sz : Nat) (h0 : Nat) (tb : Nat) (bk : ClassId) (bf : Nat → Int32) (a : Int32)  : Met l yX6_append (.code yX6_append cX6_append 3 none :: ALLW) ({ frames := 0, cells := 0, slots := 0, locals := 0 }) (va_Pc [.ref h0, .int a] (fun U => U.heap.size = sz ∧ va_P (dC, dI) vwCl [(h0, .inr (6, [.ref tb, .int 0])), (tb, .inl (bk, 2400, .inl bf))] U.heap ∧ va_K (dC, dI) vwCl [(bk, .byte)] U ∧ va_D (fun _ => True) [(h0, .inr (6, [.ref tb, .int 0])), (tb, .inl (bk, 2400, .inl bf))])) (va_Qv (fun _ : Unit => True) (fun (_ : Unit) (t : State) => ∃ (f_23 : Nat → Int32), va_P (dC, dI) vwCl [(h0, .inr (6, [.ref tb, .int 4])), (tb, .inl (bk, 2400, .inl f_23))] t.heap ∧ va_K (dC, dI) vwCl [] t ∧ va_D (va_A [(h0, .inr (6, [.ref tb, .int 0])), (tb, .inl (bk, 2400, .inl bf))] sz) [(h0, .inr (6, [.ref tb, .int 4])), (tb, .inl (bk, 2400, .inl f_23))]) (va_A [(h0, .inr (6, [.ref tb, .int 0])), (tb, .inl (bk, 2400, .inl bf))] sz)) 0 0 (va_A [(h0, .inr (6, [.ref tb, .int 0])), (tb, .inl (bk, 2400, .inl bf))] sz) := by
  refine Met.ofW (cc := cX6_append) (maxL := 3) (ret := none) (by decide) rfl ?_
  intro p e s m args below meth c s₁ B hml hv
  obtain ⟨rfl, hsz, hP, hK, hD0⟩ := hv
  have hx := B.exec
  have hb := B.bytes
  have hr := B.returns
  have hts0 := atoms_spec (ws := (.code yX6_append cX6_append 3 none :: ALLW)) B.pre
  have hts := fun (w : Cond) (h : w ∈ ALLW) => hts0 w (List.mem_cons_of_mem _ h)
  have hown : s.vm.findClass RX6 = some m.cls := findClass_of_methodNamed B.named
  have hlocks := B.notSynchronized
  subst hsz
  have hD := hD0.self (sz := s.heap.size)
  generalize hAe : va_A [(h0, .inr (6, [.ref tb, .int 0])), (tb, .inl (bk, 2400, .inl bf))] s.heap.size = A at hD ⊢
  have hA : ∀ q : Nat, s.heap.size ≤ q → A q := fun q h => by rw [← hAe]; exact Or.inr h
  have hS : va_S A s.heap s.heap [] := va_S.rf
  have hP : va_P (dC, dI) vwCl [(h0, .inr (6, [.ref tb, .int 0])), (tb, .inl (bk, 2400, .inl bf))] s.heap := hP
  have hl := lv_entry ([.ref h0, .int a]) (n := 3) (Nat.le_of_ble_eq_true rfl)
  rw [lg_entry_eq]
  generalize (lg_sl ([.ref h0, .int a]) ++ List.replicate (3 - (lg_sl ([.ref h0, .int a])).length) Slot.unset).toArray = ls at hl ⊢
  have hl : lv_has ls 3 [(0, .ref h0), (1, .int a)] := hl
  refine lv_bipush (v := 24) hx hb dX6_append_0 (by decide) ?_
  refine lv_istore_n (lv' := [(2, .int 24), (0, .ref h0), (1, .int a)]) hx hb dX6_append_2 rfl hl (by decide) rfl (fun ls hl => ?_)
  refine lv_iload_n hx hb dX6_append_3 rfl (lv_at hl 0 rfl) ?_
  refine lv_if_lt (tgt := 46) hx hb dX6_append_4 (by decide) (fun c_1 => absurd c_1 (by decide)) (fun c_1 => ?_)
  refine lv_aload_n hx hb dX6_append_7 rfl (lv_at hl 1 rfl) ?_
  refine va_get (D := (dC, dI)) (ci := 6) (v := .int 0) (C := RX6) (T := TX6) (N := 2) hx hb hts inA6 hown hK hP 0 rfl rfl 1 (by decide) (hts _ w_59) (fun _ h9 => h9) rfl dX6_append_8 ?_
  refine lv_sipush (v := 2400) hx hb dX6_append_11 (by decide) ?_
  refine lv_icmp_ge (tgt := 46) hx hb dX6_append_14 (by decide) (fun c_2 => absurd c_2 (by decide)) (fun c_2 => ?_)
  refine lv_aload_n hx hb dX6_append_17 rfl (lv_at hl 1 rfl) ?_
  refine va_get (D := (dC, dI)) (ci := 6) (v := .ref tb) (C := RX6) (T := TX6) (N := 2) hx hb hts inA6 hown hK hP 0 rfl rfl 0 (by decide) (hts _ w_58) (fun _ h9 => h9) rfl dX6_append_18 ?_
  refine lv_aload_n hx hb dX6_append_21 rfl (lv_at hl 1 rfl) ?_
  refine va_get (D := (dC, dI)) (ci := 6) (v := .int 0) (C := RX6) (T := TX6) (N := 2) hx hb hts inA6 hown hK hP 0 rfl rfl 1 (by decide) (hts _ w_59) (fun _ h9 => h9) rfl dX6_append_22 ?_
  refine lv_iload_n hx hb dX6_append_25 rfl (lv_at hl 2 rfl) ?_
  refine lv_iload_n hx hb dX6_append_26 rfl (lv_at hl 0 rfl) ?_
  refine lv_ishr hx hb dX6_append_27 ?_
  refine lv_topi (fun x_3 ex_3 => ?_)
  obtain ⟨y_4, ey_4⟩ : ∃ y : Int32, x_3.toInt8.toInt32 = y := ⟨_, rfl⟩
  refine lv_i2b (v := y_4) hx hb dX6_append_28 ey_4 ?_
  refine va_bast hx hb hK hP hD hS 1 0 rfl rfl (show vp_in 0 2400 from (by unfold vp_in; decide)) dX6_append_29 (fun H locs hP hD hS => ?_)
  rw [show (0 : Int32).toNatClampNeg = 0 from by decide] at hP hD
  generalize upd (bf) 0 (vp_nar .byte y_4) = f_5 at hP hD
  have hP : va_P (dC, dI) vwCl [(h0, .inr (6, [.ref tb, .int 0])), (tb, .inl (bk, 2400, .inl f_5))] H := hP
  have hD : va_D A [(h0, .inr (6, [.ref tb, .int 0])), (tb, .inl (bk, 2400, .inl f_5))] := hD
  refine lv_aload_n hx hb dX6_append_30 rfl (lv_at hl 1 rfl) ?_
  refine lv_dup hx hb dX6_append_31 rfl ?_
  refine va_get (D := (dC, dI)) (ci := 6) (v := .int 0) (C := RX6) (T := TX6) (N := 2) hx hb hts inA6 hown hK hP 0 rfl rfl 1 (by decide) (hts _ w_59) (fun _ h9 => h9) rfl dX6_append_32 ?_
  refine lv_iconst (v := 1) hx hb dX6_append_35 (by decide) ?_
  refine lv_iadd hx hb dX6_append_36 ?_
  refine lv_topi (fun x_6 ex_6 => ?_)
  obtain rfl : x_6 = 1 := ex_6.trans (by decide +kernel)
  refine va_put (D := (dC, dI)) (ci := 6) (v := .int 1) (ty := tyX6 1) (C := RX6) (T := TX6) (N := 2) hx hb hts inA6 tyX6 tyX6_ok nmX6 hown hK hP hD hS 0 rfl rfl 1 (by decide) (hts _ w_59) (fun _ h9 => h9) rfl (tyX6_ok 1 (by decide)) rfl rfl (Nat.le_of_ble_eq_true rfl) dX6_append_37 (fun H locs hP hD hS => ?_)
  have hP : va_P (dC, dI) vwCl [(h0, .inr (6, [.ref tb, .int 1])), (tb, .inl (bk, 2400, .inl f_5))] H := hP
  have hD : va_D A [(h0, .inr (6, [.ref tb, .int 1])), (tb, .inl (bk, 2400, .inl f_5))] := hD
  refine lv_iinc (v := 16) (lv' := [(2, .int 16), (0, .ref h0), (1, .int a)]) hx hb dX6_append_40 hl (k := 0) rfl (by decide) (by decide) rfl (fun ls hl => ?_)
  refine lv_goto (tgt := 3) hx hb dX6_append_43 (by decide) ?_
  refine lv_iload_n hx hb dX6_append_3 rfl (lv_at hl 0 rfl) ?_
  refine lv_if_lt (tgt := 46) hx hb dX6_append_4 (by decide) (fun c_7 => absurd c_7 (by decide)) (fun c_7 => ?_)
  refine lv_aload_n hx hb dX6_append_7 rfl (lv_at hl 1 rfl) ?_
  refine va_get (D := (dC, dI)) (ci := 6) (v := .int 1) (C := RX6) (T := TX6) (N := 2) hx hb hts inA6 hown hK hP 0 rfl rfl 1 (by decide) (hts _ w_59) (fun _ h9 => h9) rfl dX6_append_8 ?_
  refine lv_sipush (v := 2400) hx hb dX6_append_11 (by decide) ?_
  refine lv_icmp_ge (tgt := 46) hx hb dX6_append_14 (by decide) (fun c_8 => absurd c_8 (by decide)) (fun c_8 => ?_)
  refine lv_aload_n hx hb dX6_append_17 rfl (lv_at hl 1 rfl) ?_
  refine va_get (D := (dC, dI)) (ci := 6) (v := .ref tb) (C := RX6) (T := TX6) (N := 2) hx hb hts inA6 hown hK hP 0 rfl rfl 0 (by decide) (hts _ w_58) (fun _ h9 => h9) rfl dX6_append_18 ?_
  refine lv_aload_n hx hb dX6_append_21 rfl (lv_at hl 1 rfl) ?_
  refine va_get (D := (dC, dI)) (ci := 6) (v := .int 1) (C := RX6) (T := TX6) (N := 2) hx hb hts inA6 hown hK hP 0 rfl rfl 1 (by decide) (hts _ w_59) (fun _ h9 => h9) rfl dX6_append_22 ?_
  refine lv_iload_n hx hb dX6_append_25 rfl (lv_at hl 2 rfl) ?_
  refine lv_iload_n hx hb dX6_append_26 rfl (lv_at hl 0 rfl) ?_
  refine lv_ishr hx hb dX6_append_27 ?_
  refine lv_topi (fun x_9 ex_9 => ?_)
  obtain ⟨y_10, ey_10⟩ : ∃ y : Int32, x_9.toInt8.toInt32 = y := ⟨_, rfl⟩
  refine lv_i2b (v := y_10) hx hb dX6_append_28 ey_10 ?_
  refine va_bast hx hb hK hP hD hS 1 0 rfl rfl (show vp_in 1 2400 from (by unfold vp_in; decide)) dX6_append_29 (fun H locs hP hD hS => ?_)
  rw [show (1 : Int32).toNatClampNeg = 1 from by decide] at hP hD
  generalize upd (f_5) 1 (vp_nar .byte y_10) = f_11 at hP hD
  have hP : va_P (dC, dI) vwCl [(h0, .inr (6, [.ref tb, .int 1])), (tb, .inl (bk, 2400, .inl f_11))] H := hP
  have hD : va_D A [(h0, .inr (6, [.ref tb, .int 1])), (tb, .inl (bk, 2400, .inl f_11))] := hD
  refine lv_aload_n hx hb dX6_append_30 rfl (lv_at hl 1 rfl) ?_
  refine lv_dup hx hb dX6_append_31 rfl ?_
  refine va_get (D := (dC, dI)) (ci := 6) (v := .int 1) (C := RX6) (T := TX6) (N := 2) hx hb hts inA6 hown hK hP 0 rfl rfl 1 (by decide) (hts _ w_59) (fun _ h9 => h9) rfl dX6_append_32 ?_
  refine lv_iconst (v := 1) hx hb dX6_append_35 (by decide) ?_
  refine lv_iadd hx hb dX6_append_36 ?_
  refine lv_topi (fun x_12 ex_12 => ?_)
  obtain rfl : x_12 = 2 := ex_12.trans (by decide +kernel)
  refine va_put (D := (dC, dI)) (ci := 6) (v := .int 2) (ty := tyX6 1) (C := RX6) (T := TX6) (N := 2) hx hb hts inA6 tyX6 tyX6_ok nmX6 hown hK hP hD hS 0 rfl rfl 1 (by decide) (hts _ w_59) (fun _ h9 => h9) rfl (tyX6_ok 1 (by decide)) rfl rfl (Nat.le_of_ble_eq_true rfl) dX6_append_37 (fun H locs hP hD hS => ?_)
  have hP : va_P (dC, dI) vwCl [(h0, .inr (6, [.ref tb, .int 2])), (tb, .inl (bk, 2400, .inl f_11))] H := hP
  have hD : va_D A [(h0, .inr (6, [.ref tb, .int 2])), (tb, .inl (bk, 2400, .inl f_11))] := hD
  refine lv_iinc (v := 8) (lv' := [(2, .int 8), (0, .ref h0), (1, .int a)]) hx hb dX6_append_40 hl (k := 0) rfl (by decide) (by decide) rfl (fun ls hl => ?_)
  refine lv_goto (tgt := 3) hx hb dX6_append_43 (by decide) ?_
  refine lv_iload_n hx hb dX6_append_3 rfl (lv_at hl 0 rfl) ?_
  refine lv_if_lt (tgt := 46) hx hb dX6_append_4 (by decide) (fun c_13 => absurd c_13 (by decide)) (fun c_13 => ?_)
  refine lv_aload_n hx hb dX6_append_7 rfl (lv_at hl 1 rfl) ?_
  refine va_get (D := (dC, dI)) (ci := 6) (v := .int 2) (C := RX6) (T := TX6) (N := 2) hx hb hts inA6 hown hK hP 0 rfl rfl 1 (by decide) (hts _ w_59) (fun _ h9 => h9) rfl dX6_append_8 ?_
  refine lv_sipush (v := 2400) hx hb dX6_append_11 (by decide) ?_
  refine lv_icmp_ge (tgt := 46) hx hb dX6_append_14 (by decide) (fun c_14 => absurd c_14 (by decide)) (fun c_14 => ?_)
  refine lv_aload_n hx hb dX6_append_17 rfl (lv_at hl 1 rfl) ?_
  refine va_get (D := (dC, dI)) (ci := 6) (v := .ref tb) (C := RX6) (T := TX6) (N := 2) hx hb hts inA6 hown hK hP 0 rfl rfl 0 (by decide) (hts _ w_58) (fun _ h9 => h9) rfl dX6_append_18 ?_
  refine lv_aload_n hx hb dX6_append_21 rfl (lv_at hl 1 rfl) ?_
  refine va_get (D := (dC, dI)) (ci := 6) (v := .int 2) (C := RX6) (T := TX6) (N := 2) hx hb hts inA6 hown hK hP 0 rfl rfl 1 (by decide) (hts _ w_59) (fun _ h9 => h9) rfl dX6_append_22 ?_
  refine lv_iload_n hx hb dX6_append_25 rfl (lv_at hl 2 rfl) ?_
  refine lv_iload_n hx hb dX6_append_26 rfl (lv_at hl 0 rfl) ?_
  refine lv_ishr hx hb dX6_append_27 ?_
  refine lv_topi (fun x_15 ex_15 => ?_)
  obtain ⟨y_16, ey_16⟩ : ∃ y : Int32, x_15.toInt8.toInt32 = y := ⟨_, rfl⟩
  refine lv_i2b (v := y_16) hx hb dX6_append_28 ey_16 ?_
  refine va_bast hx hb hK hP hD hS 1 0 rfl rfl (show vp_in 2 2400 from (by unfold vp_in; decide)) dX6_append_29 (fun H locs hP hD hS => ?_)
  rw [show (2 : Int32).toNatClampNeg = 2 from by decide] at hP hD
  generalize upd (f_11) 2 (vp_nar .byte y_16) = f_17 at hP hD
  have hP : va_P (dC, dI) vwCl [(h0, .inr (6, [.ref tb, .int 2])), (tb, .inl (bk, 2400, .inl f_17))] H := hP
  have hD : va_D A [(h0, .inr (6, [.ref tb, .int 2])), (tb, .inl (bk, 2400, .inl f_17))] := hD
  refine lv_aload_n hx hb dX6_append_30 rfl (lv_at hl 1 rfl) ?_
  refine lv_dup hx hb dX6_append_31 rfl ?_
  refine va_get (D := (dC, dI)) (ci := 6) (v := .int 2) (C := RX6) (T := TX6) (N := 2) hx hb hts inA6 hown hK hP 0 rfl rfl 1 (by decide) (hts _ w_59) (fun _ h9 => h9) rfl dX6_append_32 ?_
  refine lv_iconst (v := 1) hx hb dX6_append_35 (by decide) ?_
  refine lv_iadd hx hb dX6_append_36 ?_
  refine lv_topi (fun x_18 ex_18 => ?_)
  obtain rfl : x_18 = 3 := ex_18.trans (by decide +kernel)
  refine va_put (D := (dC, dI)) (ci := 6) (v := .int 3) (ty := tyX6 1) (C := RX6) (T := TX6) (N := 2) hx hb hts inA6 tyX6 tyX6_ok nmX6 hown hK hP hD hS 0 rfl rfl 1 (by decide) (hts _ w_59) (fun _ h9 => h9) rfl (tyX6_ok 1 (by decide)) rfl rfl (Nat.le_of_ble_eq_true rfl) dX6_append_37 (fun H locs hP hD hS => ?_)
  have hP : va_P (dC, dI) vwCl [(h0, .inr (6, [.ref tb, .int 3])), (tb, .inl (bk, 2400, .inl f_17))] H := hP
  have hD : va_D A [(h0, .inr (6, [.ref tb, .int 3])), (tb, .inl (bk, 2400, .inl f_17))] := hD
  refine lv_iinc (v := 0) (lv' := [(2, .int 0), (0, .ref h0), (1, .int a)]) hx hb dX6_append_40 hl (k := 0) rfl (by decide) (by decide) rfl (fun ls hl => ?_)
  refine lv_goto (tgt := 3) hx hb dX6_append_43 (by decide) ?_
  refine lv_iload_n hx hb dX6_append_3 rfl (lv_at hl 0 rfl) ?_
  refine lv_if_lt (tgt := 46) hx hb dX6_append_4 (by decide) (fun c_19 => absurd c_19 (by decide)) (fun c_19 => ?_)
  refine lv_aload_n hx hb dX6_append_7 rfl (lv_at hl 1 rfl) ?_
  refine va_get (D := (dC, dI)) (ci := 6) (v := .int 3) (C := RX6) (T := TX6) (N := 2) hx hb hts inA6 hown hK hP 0 rfl rfl 1 (by decide) (hts _ w_59) (fun _ h9 => h9) rfl dX6_append_8 ?_
  refine lv_sipush (v := 2400) hx hb dX6_append_11 (by decide) ?_
  refine lv_icmp_ge (tgt := 46) hx hb dX6_append_14 (by decide) (fun c_20 => absurd c_20 (by decide)) (fun c_20 => ?_)
  refine lv_aload_n hx hb dX6_append_17 rfl (lv_at hl 1 rfl) ?_
  refine va_get (D := (dC, dI)) (ci := 6) (v := .ref tb) (C := RX6) (T := TX6) (N := 2) hx hb hts inA6 hown hK hP 0 rfl rfl 0 (by decide) (hts _ w_58) (fun _ h9 => h9) rfl dX6_append_18 ?_
  refine lv_aload_n hx hb dX6_append_21 rfl (lv_at hl 1 rfl) ?_
  refine va_get (D := (dC, dI)) (ci := 6) (v := .int 3) (C := RX6) (T := TX6) (N := 2) hx hb hts inA6 hown hK hP 0 rfl rfl 1 (by decide) (hts _ w_59) (fun _ h9 => h9) rfl dX6_append_22 ?_
  refine lv_iload_n hx hb dX6_append_25 rfl (lv_at hl 2 rfl) ?_
  refine lv_iload_n hx hb dX6_append_26 rfl (lv_at hl 0 rfl) ?_
  refine lv_ishr hx hb dX6_append_27 ?_
  refine lv_topi (fun x_21 ex_21 => ?_)
  obtain ⟨y_22, ey_22⟩ : ∃ y : Int32, x_21.toInt8.toInt32 = y := ⟨_, rfl⟩
  refine lv_i2b (v := y_22) hx hb dX6_append_28 ey_22 ?_
  refine va_bast hx hb hK hP hD hS 1 0 rfl rfl (show vp_in 3 2400 from (by unfold vp_in; decide)) dX6_append_29 (fun H locs hP hD hS => ?_)
  rw [show (3 : Int32).toNatClampNeg = 3 from by decide] at hP hD
  generalize upd (f_17) 3 (vp_nar .byte y_22) = f_23 at hP hD
  have hP : va_P (dC, dI) vwCl [(h0, .inr (6, [.ref tb, .int 3])), (tb, .inl (bk, 2400, .inl f_23))] H := hP
  have hD : va_D A [(h0, .inr (6, [.ref tb, .int 3])), (tb, .inl (bk, 2400, .inl f_23))] := hD
  refine lv_aload_n hx hb dX6_append_30 rfl (lv_at hl 1 rfl) ?_
  refine lv_dup hx hb dX6_append_31 rfl ?_
  refine va_get (D := (dC, dI)) (ci := 6) (v := .int 3) (C := RX6) (T := TX6) (N := 2) hx hb hts inA6 hown hK hP 0 rfl rfl 1 (by decide) (hts _ w_59) (fun _ h9 => h9) rfl dX6_append_32 ?_
  refine lv_iconst (v := 1) hx hb dX6_append_35 (by decide) ?_
  refine lv_iadd hx hb dX6_append_36 ?_
  refine lv_topi (fun x_24 ex_24 => ?_)
  obtain rfl : x_24 = 4 := ex_24.trans (by decide +kernel)
  refine va_put (D := (dC, dI)) (ci := 6) (v := .int 4) (ty := tyX6 1) (C := RX6) (T := TX6) (N := 2) hx hb hts inA6 tyX6 tyX6_ok nmX6 hown hK hP hD hS 0 rfl rfl 1 (by decide) (hts _ w_59) (fun _ h9 => h9) rfl (tyX6_ok 1 (by decide)) rfl rfl (Nat.le_of_ble_eq_true rfl) dX6_append_37 (fun H locs hP hD hS => ?_)
  have hP : va_P (dC, dI) vwCl [(h0, .inr (6, [.ref tb, .int 4])), (tb, .inl (bk, 2400, .inl f_23))] H := hP
  have hD : va_D A [(h0, .inr (6, [.ref tb, .int 4])), (tb, .inl (bk, 2400, .inl f_23))] := hD
  refine lv_iinc (v := (-8)) (lv' := [(2, .int (-8)), (0, .ref h0), (1, .int a)]) hx hb dX6_append_40 hl (k := 0) rfl (by decide) (by decide) rfl (fun ls hl => ?_)
  refine lv_goto (tgt := 3) hx hb dX6_append_43 (by decide) ?_
  refine lv_iload_n hx hb dX6_append_3 rfl (lv_at hl 0 rfl) ?_
  refine lv_if_lt (tgt := 46) hx hb dX6_append_4 (by decide) (fun c_25 => ?_) (fun c_25 => absurd (by decide) c_25)
  have hP9 := hP.sub (ws' := [(h0, .inr (6, [.ref tb, .int 4])), (tb, .inl (bk, 2400, .inl f_23))]) [0, 1] rfl
  have hD9 := hD.sub (ws' := [(h0, .inr (6, [.ref tb, .int 4])), (tb, .inl (bk, 2400, .inl f_23))]) [0, 1] (by decide) rfl
  have hK9 := hK.sub (tys' := []) [] rfl
  exact W.vret hx hb hr (fun t ht hW => ⟨⟨(), rfl, trivial, f_23, by rw [ht]; exact hP9, va_K.moved hW.alike hK9, hD9⟩, hS.F ht⟩) hS.2.2 dX6_append_46
