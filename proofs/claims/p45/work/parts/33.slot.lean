set_option maxHeartbeats 4000000 in
set_option maxRecDepth 100000 in
theorem z_begin (l : Launch) (dC : Nat → ClassId) (dI : Nat → Nat → Nat) (sz : Nat) (z : Nat) (a : Int32) (b : Int32) (z_numbers : Nat) (z_used : Int32) (z_width : Int32) (z_length : Int32) (kz_numbers : ClassId) (fz_numbers : Nat → Int64) (b_a : (0) ≤ a.toInt ∧ a.toInt ≤ 3) (b_b : (0) ≤ b.toInt ∧ b.toInt ≤ 60) (b_z_used : (0) ≤ z_used.toInt ∧ z_used.toInt ≤ 1) (b_z_width : (0) ≤ z_width.toInt ∧ z_width.toInt ≤ 3) (b_z_length : (0) ≤ z_length.toInt ∧ z_length.toInt ≤ 60) : Met l yX5_begin (.code yX5_begin cX5_begin 3 none :: ALLW) ({ frames := 1, cells := 0, slots := 0, locals := 24 }) (va_Pc [.ref z, .int a, .int b] (fun U => U.heap.size = sz ∧ va_P (dC, dI) vwCl [(z, .inr (5, [.ref z_numbers, .int z_used, .int z_width, .int z_length])), (z_numbers, .inl (kz_numbers, 60, .inr (.inl fz_numbers)))] U.heap ∧ va_K (dC, dI) vwCl [(kz_numbers, .long)] U ∧ va_D (fun _ => True) [(z, .inr (5, [.ref z_numbers, .int z_used, .int z_width, .int z_length])), (z_numbers, .inl (kz_numbers, 60, .inr (.inl fz_numbers)))])) (va_Qv (fun _ : Unit => True) (fun (_ : Unit) (t9 : State) => ∃ (z_usedz : Int32) (z_widthz : Int32) (z_lengthz : Int32) (fz_numbersz : Nat → Int64), ((0) ≤ z_usedz.toInt ∧ z_usedz.toInt ≤ 1) ∧ ((0) ≤ z_widthz.toInt ∧ z_widthz.toInt ≤ 3) ∧ ((0) ≤ z_lengthz.toInt ∧ z_lengthz.toInt ≤ 60) ∧ (z_usedz.toInt = 1) ∧ (z_widthz.toInt = a.toInt) ∧ (z_lengthz.toInt = b.toInt) ∧ va_P (dC, dI) vwCl [(z, .inr (5, [.ref z_numbers, .int z_usedz, .int z_widthz, .int z_lengthz])), (z_numbers, .inl (kz_numbers, 60, .inr (.inl fz_numbersz)))] t9.heap ∧ va_K (dC, dI) vwCl [] t9 ∧ va_D (va_A [(z, .inr (5, [.ref z_numbers, .int z_used, .int z_width, .int z_length])), (z_numbers, .inl (kz_numbers, 60, .inr (.inl fz_numbers)))] sz) [(z, .inr (5, [.ref z_numbers, .int z_usedz, .int z_widthz, .int z_lengthz])), (z_numbers, .inl (kz_numbers, 60, .inr (.inl fz_numbersz)))]) (va_A [(z, .inr (5, [.ref z_numbers, .int z_used, .int z_width, .int z_length])), (z_numbers, .inl (kz_numbers, 60, .inr (.inl fz_numbers)))] sz)) 0 0 (va_A [(z, .inr (5, [.ref z_numbers, .int z_used, .int z_width, .int z_length])), (z_numbers, .inl (kz_numbers, 60, .inr (.inl fz_numbers)))] sz) := by
  refine Met.ofW (cc := cX5_begin) (maxL := 3) (ret := none) (by decide) rfl ?_
  intro pr_ en_ s me_ args below meth c s₁ B hml hv
  obtain ⟨rfl, hsz, hP, hK, hD0⟩ := hv
  have hx := B.exec
  have hb := B.bytes
  have hr := B.returns
  have hts0 := atoms_spec (ws := (.code yX5_begin cX5_begin 3 none :: ALLW)) B.pre
  have hts := fun (w : Cond) (h : w ∈ ALLW) => hts0 w (List.mem_cons_of_mem _ h)
  have hown : s.vm.findClass RX5 = some me_.cls := findClass_of_methodNamed B.named
  have hlocks := B.notSynchronized
  subst hsz
  have hD := hD0.self (sz := s.heap.size)
  generalize hAe : va_A [(z, .inr (5, [.ref z_numbers, .int z_used, .int z_width, .int z_length])), (z_numbers, .inl (kz_numbers, 60, .inr (.inl fz_numbers)))] s.heap.size = A at hD ⊢
  have hA : ∀ q : Nat, s.heap.size ≤ q → A q := fun q h => by rw [← hAe]; exact Or.inr h
  have hS : va_S A s.heap s.heap [] := va_S.rf
  have hP : va_P (dC, dI) vwCl [(z, .inr (5, [.ref z_numbers, .int z_used, .int z_width, .int z_length])), (z_numbers, .inl (kz_numbers, 60, .inr (.inl fz_numbers)))] s.heap := hP
  have hl := lv_entry ([.ref z, .int a, .int b]) (n := 3) (Nat.le_of_ble_eq_true rfl)
  rw [lg_entry_eq]
  generalize (lg_sl ([.ref z, .int a, .int b]) ++ List.replicate (3 - (lg_sl ([.ref z, .int a, .int b])).length) Slot.unset).toArray = ls at hl ⊢
  have hl : lv_has ls 3 [(0, .ref z), (1, .int a), (2, .int b)] := hl
  refine gQ (fun Q eQ => ?_)
  refine lv_aload_n hx hb dX5_begin_0 rfl (lv_at hl 0 rfl) ?_
  refine lv_iconst (v := 1) hx hb dX5_begin_1 (by decide) ?_
  refine va_put (D := (dC, dI)) (ci := 5) (v := .int 1) (ty := tyX5 1) (C := RX5) (T := TX5) (N := 4) hx hb hts inA5 tyX5 tyX5_ok nmX5 hown hK hP hD hS 0 rfl rfl 1 (by decide) (hts _ w_160) (fun _ h9 => h9) rfl (tyX5_ok 1 (by decide)) (by decide) (by decide) (Nat.le_of_ble_eq_true rfl) dX5_begin_2 (fun H locs hP hD hS => ?_)
  have hP : va_P (dC, dI) vwCl [(z, .inr (5, [.ref z_numbers, .int 1, .int z_width, .int z_length])), (z_numbers, .inl (kz_numbers, 60, .inr (.inl fz_numbers)))] H := hP
  have hD : va_D A [(z, .inr (5, [.ref z_numbers, .int 1, .int z_width, .int z_length])), (z_numbers, .inl (kz_numbers, 60, .inr (.inl fz_numbers)))] := hD
  refine lv_aload_n hx hb dX5_begin_5 rfl (lv_at hl 0 rfl) ?_
  refine lv_iload_n hx hb dX5_begin_6 rfl (lv_at hl 1 rfl) ?_
  refine va_put (D := (dC, dI)) (ci := 5) (v := .int a) (ty := tyX5 2) (C := RX5) (T := TX5) (N := 4) hx hb hts inA5 tyX5 tyX5_ok nmX5 hown hK hP hD hS 0 rfl rfl 2 (by decide) (hts _ w_161) (fun _ h9 => h9) rfl (tyX5_ok 2 (by decide)) rfl rfl (Nat.le_of_ble_eq_true rfl) dX5_begin_7 (fun H locs hP hD hS => ?_)
  have hP : va_P (dC, dI) vwCl [(z, .inr (5, [.ref z_numbers, .int 1, .int a, .int z_length])), (z_numbers, .inl (kz_numbers, 60, .inr (.inl fz_numbers)))] H := hP
  have hD : va_D A [(z, .inr (5, [.ref z_numbers, .int 1, .int a, .int z_length])), (z_numbers, .inl (kz_numbers, 60, .inr (.inl fz_numbers)))] := hD
  refine lv_aload_n hx hb dX5_begin_10 rfl (lv_at hl 0 rfl) ?_
  refine lv_iload_n hx hb dX5_begin_11 rfl (lv_at hl 2 rfl) ?_
  refine va_put (D := (dC, dI)) (ci := 5) (v := .int b) (ty := tyX5 3) (C := RX5) (T := TX5) (N := 4) hx hb hts inA5 tyX5 tyX5_ok nmX5 hown hK hP hD hS 0 rfl rfl 3 (by decide) (hts _ w_162) (fun _ h9 => h9) rfl (tyX5_ok 3 (by decide)) rfl rfl (Nat.le_of_ble_eq_true rfl) dX5_begin_12 (fun H locs hP hD hS => ?_)
  have hP : va_P (dC, dI) vwCl [(z, .inr (5, [.ref z_numbers, .int 1, .int a, .int b])), (z_numbers, .inl (kz_numbers, 60, .inr (.inl fz_numbers)))] H := hP
  have hD : va_D A [(z, .inr (5, [.ref z_numbers, .int 1, .int a, .int b])), (z_numbers, .inl (kz_numbers, 60, .inr (.inl fz_numbers)))] := hD
  refine lv_aload_n hx hb dX5_begin_15 rfl (lv_at hl 0 rfl) ?_
  refine va_get (D := (dC, dI)) (ci := 5) (v := .ref z_numbers) (C := RX5) (T := TX5) (N := 4) hx hb hts inA5 hown hK hP 0 rfl rfl 0 (by decide) (hts _ w_159) (fun _ h9 => h9) rfl dX5_begin_16 ?_
  refine lv_lconst (v := 0) hx hb dX5_begin_19 (by decide) ?_
  have hPc := hP.sub (ws' := [(z_numbers, .inl (kz_numbers, 60, .inr (.inl fz_numbers)))]) [1] rfl
  have hDc := hD.sub (ws' := [(z_numbers, .inl (kz_numbers, 60, .inr (.inl fz_numbers)))]) [1] (by decide) rfl
  have hKc := hK.sub (tys' := [(kz_numbers, .long)]) [0] rfl
  have hFc := va_free (wc := [(z_numbers, .inl (kz_numbers, 60, .inr (.inl fz_numbers)))]) hD hS hA [1] rfl
  refine va_callv (va_runS (As := [.ref z_numbers, .long 0]) (rest := []) ⟨hx, hb, hml, hown, hts⟩ (c_fillJ l dC dI H.size z_numbers kz_numbers 60 fz_numbers 0 (by decide)) (va_cwS 2 hts (goodS w_1336 w_1337 w_101 w_1338) rfl rfl rfl hdS_J7_fill_d0a16 ⟨Nat.le_of_ble_eq_true rfl, Nat.le_of_ble_eq_true rfl⟩) ⟨fun a U g mk q => by obtain ⟨q0, q1, qP, qK, qD⟩ := q; exact ⟨q0, q1, qP, va_K.moved (u := U) (U := U.calling g mk a) (Vm.Alike.refl U.vm) qK, qD⟩, fun U hU hW => ⟨rfl, by rw [hU], by rw [hU]; exact hPc, va_K.moved hW.alike hKc, hDc.weaken (fun _ _ _ _ => trivial)⟩⟩ rfl rfl hl.1 rfl (lv_room (Nat.le_of_ble_eq_true rfl)) dX5_begin_20 ⟨Nat.le_of_ble_eq_true rfl, Nat.le_of_ble_eq_true rfl⟩) hS (fun q _ h => hFc q h) hFc (fun u9 t9 H1 locs ht hvm hw hB hz1 hk1 hS => ?_)
  obtain ⟨f_2, hf_3, hP1, hK1, hD1⟩ := hB
  have hz_4 : (0 : Int64).toInt = 0 := by decide
  rw [ht] at hP1
  have hK1 := va_K.moved hvm.symm hK1
  obtain ⟨hP, hD⟩ := va_join (wr := [(z, .inr (5, [.ref z_numbers, .int 1, .int a, .int b]))]) (w1 := [(z_numbers, .inl (kz_numbers, 60, .inr (.inl f_2)))]) hP hD [1] [0] rfl rfl (by decide) (by decide) hk1 hFc hP1 hD1
  clear hPc hDc hKc hFc hz1 hk1 hP1 hD1 hK1
  generalize H1 = H at hP hS ⊢
  have hP : va_P (dC, dI) vwCl [(z, .inr (5, [.ref z_numbers, .int 1, .int a, .int b])), (z_numbers, .inl (kz_numbers, 60, .inr (.inl f_2)))] H := hP
  have hD : va_D A [(z, .inr (5, [.ref z_numbers, .int 1, .int a, .int b])), (z_numbers, .inl (kz_numbers, 60, .inr (.inl f_2)))] := hD
  have z_5 : (1 : Int32).toInt = 1 := by decide
  have hP9 := hP.sub (ws' := [(z, .inr (5, [.ref z_numbers, .int 1, .int a, .int b])), (z_numbers, .inl (kz_numbers, 60, .inr (.inl f_2)))]) [0, 1] rfl
  have hD9 := hD.sub (ws' := [(z, .inr (5, [.ref z_numbers, .int 1, .int a, .int b])), (z_numbers, .inl (kz_numbers, 60, .inr (.inl f_2)))]) [0, 1] (by decide) rfl
  have hK9 := hK.sub (tys' := []) [] rfl
  refine gQe eQ ?_
  exact W.vret hx hb hr (fun t9 ht hW => ⟨⟨(), rfl, trivial, 1, a, b, f_2, ⟨by decide, by decide⟩, b_a, b_b, (by omega), (by omega), (by omega), by rw [ht]; exact hP9, va_K.moved hW.alike hK9, hD9⟩, hS.F ht⟩) hS.2.2 dX5_begin_23
set_option maxHeartbeats 4000000 in
set_option maxRecDepth 100000 in
theorem z_cut (l : Launch) (dC : Nat → ClassId) (dI : Nat → Nat → Nat) (sz : Nat) (z : Nat) (v : Int64) (z_numbers : Nat) (z_used : Int32) (z_width : Int32) (z_length : Int32) (b_z_used : (0) ≤ z_used.toInt ∧ z_used.toInt ≤ 1) (b_z_width : (0) ≤ z_width.toInt ∧ z_width.toInt ≤ 3) (b_z_length : (0) ≤ z_length.toInt ∧ z_length.toInt ≤ 60) : Met l yX5_cut (.code yX5_cut cX5_cut 3 (some .long) :: ALLW) ({ frames := 0, cells := 0, slots := 0, locals := 0 }) (va_Pc [.ref z, .long v] (fun U => U.heap.size = sz ∧ va_P (dC, dI) vwCl [(z, .inr (5, [.ref z_numbers, .int z_used, .int z_width, .int z_length]))] U.heap ∧ va_K (dC, dI) vwCl [] U ∧ va_D (fun _ => True) [(z, .inr (5, [.ref z_numbers, .int z_used, .int z_width, .int z_length]))])) (va_Ql (fun (r u : Int64) => r = u) (fun (u : Int64) (t9 : State) => va_P (dC, dI) vwCl [(z, .inr (5, [.ref z_numbers, .int z_used, .int z_width, .int z_length]))] t9.heap ∧ va_K (dC, dI) vwCl [] t9 ∧ va_D (va_A [(z, .inr (5, [.ref z_numbers, .int z_used, .int z_width, .int z_length]))] sz) [(z, .inr (5, [.ref z_numbers, .int z_used, .int z_width, .int z_length]))]) (va_A [(z, .inr (5, [.ref z_numbers, .int z_used, .int z_width, .int z_length]))] sz)) 0 0 (va_A [(z, .inr (5, [.ref z_numbers, .int z_used, .int z_width, .int z_length]))] sz) := by
  refine Met.ofW (cc := cX5_cut) (maxL := 3) (ret := (some .long)) (by decide) rfl ?_
  intro pr_ en_ s me_ args below meth c s₁ B hml hv
  obtain ⟨rfl, hsz, hP, hK, hD0⟩ := hv
  have hx := B.exec
  have hb := B.bytes
  have hr := B.returns
  have hts0 := atoms_spec (ws := (.code yX5_cut cX5_cut 3 (some .long) :: ALLW)) B.pre
  have hts := fun (w : Cond) (h : w ∈ ALLW) => hts0 w (List.mem_cons_of_mem _ h)
  have hown : s.vm.findClass RX5 = some me_.cls := findClass_of_methodNamed B.named
  have hlocks := B.notSynchronized
  subst hsz
  have hD := hD0.self (sz := s.heap.size)
  generalize hAe : va_A [(z, .inr (5, [.ref z_numbers, .int z_used, .int z_width, .int z_length]))] s.heap.size = A at hD ⊢
  have hA : ∀ q : Nat, s.heap.size ≤ q → A q := fun q h => by rw [← hAe]; exact Or.inr h
  have hS : va_S A s.heap s.heap [] := va_S.rf
  have hP : va_P (dC, dI) vwCl [(z, .inr (5, [.ref z_numbers, .int z_used, .int z_width, .int z_length]))] s.heap := hP
  have hl := lv_entry ([.ref z, .long v]) (n := 3) (Nat.le_of_ble_eq_true rfl)
  rw [lg_entry_eq]
  generalize (lg_sl ([.ref z, .long v]) ++ List.replicate (3 - (lg_sl ([.ref z, .long v])).length) Slot.unset).toArray = ls at hl ⊢
  have hl : lv_has ls 3 [(0, .ref z), (1, .long v)] := hl
  refine gQ (fun Q eQ => ?_)
  refine lv_aload_n hx hb dX5_cut_0 rfl (lv_at hl 0 rfl) ?_
  refine va_get (D := (dC, dI)) (ci := 5) (v := .int z_width) (C := RX5) (T := TX5) (N := 4) hx hb hts inA5 hown hK hP 0 rfl rfl 2 (by decide) (hts _ w_161) (fun _ h9 => h9) rfl dX5_cut_1 ?_
  rcases (show z_width.toInt = 0 ∨ z_width.toInt = 1 ∨ z_width.toInt = 2 ∨ (z_width.toInt ≠ 0 ∧ z_width.toInt ≠ 1 ∧ z_width.toInt ≠ 2) by omega) with h_1 | h_1 | h_1 | h_1
  · refine lv_tableIn (tgt := 32) hx hb dX5_cut_4 (by omega) (by omega) (by rw [h_1]; rfl) (by decide) ?_
    refine lv_lload_n hx hb dX5_cut_32 rfl (lv_at hl 1 rfl) ?_
    obtain ⟨y_2, ey_2⟩ : ∃ y : Int32, (v : Int64).toInt32 = y := ⟨_, rfl⟩
    refine lv_l2i (v := y_2) hx hb dX5_cut_33 ey_2 ?_
    obtain ⟨y_3, ey_3⟩ : ∃ y : Int32, (y_2 : Int32).toInt8.toInt32 = y := ⟨_, rfl⟩
    refine lv_i2b (v := y_3) hx hb dX5_cut_34 ey_3 ?_
    obtain ⟨y_4, ey_4⟩ : ∃ y : Int64, y.toInt = y_3.toInt ∧ y_3.toInt64 = y := ⟨_, Int32.toInt_toInt64 _, rfl⟩
    refine lv_i2l (v := y_4) hx hb dX5_cut_35 ey_4.2 ?_
    have rg_5 := q_rng y_3
    have b_y_4 := ey_4.1
    have hP9 := hP.sub (ws' := [(z, .inr (5, [.ref z_numbers, .int z_used, .int z_width, .int z_length]))]) [0] rfl
    have hD9 := hD.sub (ws' := [(z, .inr (5, [.ref z_numbers, .int z_used, .int z_width, .int z_length]))]) [0] (by decide) rfl
    have hK9 := hK.sub (tys' := []) [] rfl
    refine gQe eQ ?_
    exact W.lret (v := y_4) hx hb hr (fun t9 ht hW => ⟨⟨y_4, y_4, rfl, rfl, by rw [ht]; exact hP9, va_K.moved hW.alike hK9, hD9⟩, hS.F ht⟩) hS.2.2 dX5_cut_36
  · refine lv_tableIn (tgt := 37) hx hb dX5_cut_4 (by omega) (by omega) (by rw [h_1]; rfl) (by decide) ?_
    refine lv_lload_n hx hb dX5_cut_37 rfl (lv_at hl 1 rfl) ?_
    obtain ⟨y_6, ey_6⟩ : ∃ y : Int32, (v : Int64).toInt32 = y := ⟨_, rfl⟩
    refine lv_l2i (v := y_6) hx hb dX5_cut_38 ey_6 ?_
    obtain ⟨y_7, ey_7⟩ : ∃ y : Int32, (y_6 : Int32).toInt16.toInt32 = y := ⟨_, rfl⟩
    refine lv_i2s (v := y_7) hx hb dX5_cut_39 ey_7 ?_
    obtain ⟨y_8, ey_8⟩ : ∃ y : Int64, y.toInt = y_7.toInt ∧ y_7.toInt64 = y := ⟨_, Int32.toInt_toInt64 _, rfl⟩
    refine lv_i2l (v := y_8) hx hb dX5_cut_40 ey_8.2 ?_
    have rg_9 := q_rng y_7
    have b_y_8 := ey_8.1
    have hP9 := hP.sub (ws' := [(z, .inr (5, [.ref z_numbers, .int z_used, .int z_width, .int z_length]))]) [0] rfl
    have hD9 := hD.sub (ws' := [(z, .inr (5, [.ref z_numbers, .int z_used, .int z_width, .int z_length]))]) [0] (by decide) rfl
    have hK9 := hK.sub (tys' := []) [] rfl
    refine gQe eQ ?_
    exact W.lret (v := y_8) hx hb hr (fun t9 ht hW => ⟨⟨y_8, y_8, rfl, rfl, by rw [ht]; exact hP9, va_K.moved hW.alike hK9, hD9⟩, hS.F ht⟩) hS.2.2 dX5_cut_41
  · refine lv_tableIn (tgt := 42) hx hb dX5_cut_4 (by omega) (by omega) (by rw [h_1]; rfl) (by decide) ?_
    refine lv_lload_n hx hb dX5_cut_42 rfl (lv_at hl 1 rfl) ?_
    obtain ⟨y_10, ey_10⟩ : ∃ y : Int32, (v : Int64).toInt32 = y := ⟨_, rfl⟩
    refine lv_l2i (v := y_10) hx hb dX5_cut_43 ey_10 ?_
    obtain ⟨y_11, ey_11⟩ : ∃ y : Int64, y.toInt = y_10.toInt ∧ y_10.toInt64 = y := ⟨_, Int32.toInt_toInt64 _, rfl⟩
    refine lv_i2l (v := y_11) hx hb dX5_cut_44 ey_11.2 ?_
    have rg_12 := q_rng y_10
    have b_y_11 := ey_11.1
    have hP9 := hP.sub (ws' := [(z, .inr (5, [.ref z_numbers, .int z_used, .int z_width, .int z_length]))]) [0] rfl
    have hD9 := hD.sub (ws' := [(z, .inr (5, [.ref z_numbers, .int z_used, .int z_width, .int z_length]))]) [0] (by decide) rfl
    have hK9 := hK.sub (tys' := []) [] rfl
    refine gQe eQ ?_
    exact W.lret (v := y_11) hx hb hr (fun t9 ht hW => ⟨⟨y_11, y_11, rfl, rfl, by rw [ht]; exact hP9, va_K.moved hW.alike hK9, hD9⟩, hS.F ht⟩) hS.2.2 dX5_cut_45
  · refine lv_tableOut (tgt := 46) hx hb dX5_cut_4 (by omega) (by decide) ?_
    refine lv_lload_n hx hb dX5_cut_46 rfl (lv_at hl 1 rfl) ?_
    have hP9 := hP.sub (ws' := [(z, .inr (5, [.ref z_numbers, .int z_used, .int z_width, .int z_length]))]) [0] rfl
    have hD9 := hD.sub (ws' := [(z, .inr (5, [.ref z_numbers, .int z_used, .int z_width, .int z_length]))]) [0] (by decide) rfl
    have hK9 := hK.sub (tys' := []) [] rfl
    refine gQe eQ ?_
    exact W.lret (v := v) hx hb hr (fun t9 ht hW => ⟨⟨v, v, rfl, rfl, by rw [ht]; exact hP9, va_K.moved hW.alike hK9, hD9⟩, hS.F ht⟩) hS.2.2 dX5_cut_47
set_option maxHeartbeats 4000000 in
set_option maxRecDepth 100000 in
theorem z_spans (l : Launch) (dC : Nat → ClassId) (dI : Nat → Nat → Nat) (sz : Nat) (z : Nat) (a : Int32) (b : Int32) (z_numbers : Nat) (z_used : Int32) (z_width : Int32) (z_length : Int32) (b_z_used : (0) ≤ z_used.toInt ∧ z_used.toInt ≤ 1) (b_z_width : (0) ≤ z_width.toInt ∧ z_width.toInt ≤ 3) (b_z_length : (0) ≤ z_length.toInt ∧ z_length.toInt ≤ 60) : Met l yX5_spans (.code yX5_spans cX5_spans 3 (some .boolean) :: ALLW) ({ frames := 0, cells := 0, slots := 0, locals := 0 }) (va_Pc [.ref z, .int a, .int b] (fun U => U.heap.size = sz ∧ va_P (dC, dI) vwCl [(z, .inr (5, [.ref z_numbers, .int z_used, .int z_width, .int z_length]))] U.heap ∧ va_K (dC, dI) vwCl [] U ∧ va_D (fun _ => True) [(z, .inr (5, [.ref z_numbers, .int z_used, .int z_width, .int z_length]))])) (va_Qi (fun (r u : Int32) => r = u) (fun (u : Int32) (t9 : State) => ((0) ≤ u.toInt ∧ u.toInt ≤ 1) ∧ (u.toInt = 0 ∨ (0 ≤ a.toInt ∧ 0 ≤ b.toInt ∧ a.toInt + b.toInt ≤ z_length.toInt)) ∧ (u.toInt ≠ 0 ∨ a.toInt < 0 ∨ b.toInt < 0 ∨ z_length.toInt < a.toInt + b.toInt) ∧ va_P (dC, dI) vwCl [(z, .inr (5, [.ref z_numbers, .int z_used, .int z_width, .int z_length]))] t9.heap ∧ va_K (dC, dI) vwCl [] t9 ∧ va_D (va_A [(z, .inr (5, [.ref z_numbers, .int z_used, .int z_width, .int z_length]))] sz) [(z, .inr (5, [.ref z_numbers, .int z_used, .int z_width, .int z_length]))]) (va_A [(z, .inr (5, [.ref z_numbers, .int z_used, .int z_width, .int z_length]))] sz)) 0 0 (va_A [(z, .inr (5, [.ref z_numbers, .int z_used, .int z_width, .int z_length]))] sz) := by
  refine Met.ofW (cc := cX5_spans) (maxL := 3) (ret := (some .boolean)) (by decide) rfl ?_
  intro pr_ en_ s me_ args below meth c s₁ B hml hv
  obtain ⟨rfl, hsz, hP, hK, hD0⟩ := hv
  have hx := B.exec
  have hb := B.bytes
  have hr := B.returns
  have hts0 := atoms_spec (ws := (.code yX5_spans cX5_spans 3 (some .boolean) :: ALLW)) B.pre
  have hts := fun (w : Cond) (h : w ∈ ALLW) => hts0 w (List.mem_cons_of_mem _ h)
  have hown : s.vm.findClass RX5 = some me_.cls := findClass_of_methodNamed B.named
  have hlocks := B.notSynchronized
  subst hsz
  have hD := hD0.self (sz := s.heap.size)
  generalize hAe : va_A [(z, .inr (5, [.ref z_numbers, .int z_used, .int z_width, .int z_length]))] s.heap.size = A at hD ⊢
  have hA : ∀ q : Nat, s.heap.size ≤ q → A q := fun q h => by rw [← hAe]; exact Or.inr h
  have hS : va_S A s.heap s.heap [] := va_S.rf
  have hP : va_P (dC, dI) vwCl [(z, .inr (5, [.ref z_numbers, .int z_used, .int z_width, .int z_length]))] s.heap := hP
  have hl := lv_entry ([.ref z, .int a, .int b]) (n := 3) (Nat.le_of_ble_eq_true rfl)
  rw [lg_entry_eq]
  generalize (lg_sl ([.ref z, .int a, .int b]) ++ List.replicate (3 - (lg_sl ([.ref z, .int a, .int b])).length) Slot.unset).toArray = ls at hl ⊢
  have hl : lv_has ls 3 [(0, .ref z), (1, .int a), (2, .int b)] := hl
  refine gQ (fun Q eQ => ?_)
  refine lv_iload_n hx hb dX5_spans_0 rfl (lv_at hl 1 rfl) ?_
  have rg_2 := q_rng a
  refine lv_if_lt (tgt := 26) hx hb dX5_spans_1 (by decide) (fun c_1 => ?_) (fun c_1 => ?_)
  · have ec_1 := q_lt (a := a.toInt) (b := 0) rfl (by decide) c_1
    refine lv_iconst (v := 0) hx hb dX5_spans_26 (by decide) ?_
    have z_3 : (0 : Int32).toInt = 0 := by decide
    have hP9 := hP.sub (ws' := [(z, .inr (5, [.ref z_numbers, .int z_used, .int z_width, .int z_length]))]) [0] rfl
    have hD9 := hD.sub (ws' := [(z, .inr (5, [.ref z_numbers, .int z_used, .int z_width, .int z_length]))]) [0] (by decide) rfl
    have hK9 := hK.sub (tys' := []) [] rfl
    refine gQe eQ ?_
    exact W.zret (v := 0) hx hb hr (by decide) (fun t9 ht hW => ⟨⟨0, 0, rfl, rfl, ⟨by decide, by decide⟩, (by omega), (by omega), by rw [ht]; exact hP9, va_K.moved hW.alike hK9, hD9⟩, hS.F ht⟩) hS.2.2 dX5_spans_27
  · have ec_1 := q_nlt (a := a.toInt) (b := 0) rfl (by decide) c_1
    refine lv_iload_n hx hb dX5_spans_4 rfl (lv_at hl 2 rfl) ?_
    have rg_5 := q_rng b
    refine lv_if_lt (tgt := 26) hx hb dX5_spans_5 (by decide) (fun c_4 => ?_) (fun c_4 => ?_)
    · have ec_4 := q_lt (a := b.toInt) (b := 0) rfl (by decide) c_4
      refine lv_iconst (v := 0) hx hb dX5_spans_26 (by decide) ?_
      have z_6 : (0 : Int32).toInt = 0 := by decide
      have hP9 := hP.sub (ws' := [(z, .inr (5, [.ref z_numbers, .int z_used, .int z_width, .int z_length]))]) [0] rfl
      have hD9 := hD.sub (ws' := [(z, .inr (5, [.ref z_numbers, .int z_used, .int z_width, .int z_length]))]) [0] (by decide) rfl
      have hK9 := hK.sub (tys' := []) [] rfl
      refine gQe eQ ?_
      exact W.zret (v := 0) hx hb hr (by decide) (fun t9 ht hW => ⟨⟨0, 0, rfl, rfl, ⟨by decide, by decide⟩, (by omega), (by omega), by rw [ht]; exact hP9, va_K.moved hW.alike hK9, hD9⟩, hS.F ht⟩) hS.2.2 dX5_spans_27
    · have ec_4 := q_nlt (a := b.toInt) (b := 0) rfl (by decide) c_4
      refine lv_iload_n hx hb dX5_spans_8 rfl (lv_at hl 1 rfl) ?_
      obtain ⟨y_7, ey_7⟩ : ∃ y : Int64, y.toInt = a.toInt ∧ a.toInt64 = y := ⟨_, Int32.toInt_toInt64 _, rfl⟩
      refine lv_i2l (v := y_7) hx hb dX5_spans_9 ey_7.2 ?_
      have b_y_7 := ey_7.1
      refine lv_iload_n hx hb dX5_spans_10 rfl (lv_at hl 2 rfl) ?_
      obtain ⟨y_8, ey_8⟩ : ∃ y : Int64, y.toInt = b.toInt ∧ b.toInt64 = y := ⟨_, Int32.toInt_toInt64 _, rfl⟩
      refine lv_i2l (v := y_8) hx hb dX5_spans_11 ey_8.2 ?_
      have b_y_8 := ey_8.1
      refine lv_ladd hx hb dX5_spans_12 ?_
      refine lv_topl (fun x_9 ex_9 => ?_)
      have b_x_9 := q_addL (a := y_7.toInt) (b := y_8.toInt) ex_9 rfl rfl (by omega) (by omega)
      refine lv_aload_n hx hb dX5_spans_13 rfl (lv_at hl 0 rfl) ?_
      refine va_get (D := (dC, dI)) (ci := 5) (v := .int z_length) (C := RX5) (T := TX5) (N := 4) hx hb hts inA5 hown hK hP 0 rfl rfl 3 (by decide) (hts _ w_162) (fun _ h9 => h9) rfl dX5_spans_14 ?_
      obtain ⟨y_10, ey_10⟩ : ∃ y : Int64, y.toInt = z_length.toInt ∧ z_length.toInt64 = y := ⟨_, Int32.toInt_toInt64 _, rfl⟩
      refine lv_i2l (v := y_10) hx hb dX5_spans_17 ey_10.2 ?_
      have b_y_10 := ey_10.1
      refine W.lcmp hx hb dX5_spans_18 ?_
      refine lv_if_gt (tgt := 26) hx hb dX5_spans_19 (by decide) (fun c_11 => ?_) (fun c_11 => ?_)
      · have ec_11 := qc_gt (a := x_9.toInt) (b := y_10.toInt) rfl rfl c_11
        refine lv_iconst (v := 0) hx hb dX5_spans_26 (by decide) ?_
        have z_12 : (0 : Int32).toInt = 0 := by decide
        have hP9 := hP.sub (ws' := [(z, .inr (5, [.ref z_numbers, .int z_used, .int z_width, .int z_length]))]) [0] rfl
        have hD9 := hD.sub (ws' := [(z, .inr (5, [.ref z_numbers, .int z_used, .int z_width, .int z_length]))]) [0] (by decide) rfl
        have hK9 := hK.sub (tys' := []) [] rfl
        refine gQe eQ ?_
        exact W.zret (v := 0) hx hb hr (by decide) (fun t9 ht hW => ⟨⟨0, 0, rfl, rfl, ⟨by decide, by decide⟩, (by omega), (by omega), by rw [ht]; exact hP9, va_K.moved hW.alike hK9, hD9⟩, hS.F ht⟩) hS.2.2 dX5_spans_27
      · have ec_11 := qc_ngt (a := x_9.toInt) (b := y_10.toInt) rfl rfl c_11
        refine lv_iconst (v := 1) hx hb dX5_spans_22 (by decide) ?_
        refine lv_goto (tgt := 27) hx hb dX5_spans_23 (by decide) ?_
        have z_13 : (1 : Int32).toInt = 1 := by decide
        have hP9 := hP.sub (ws' := [(z, .inr (5, [.ref z_numbers, .int z_used, .int z_width, .int z_length]))]) [0] rfl
        have hD9 := hD.sub (ws' := [(z, .inr (5, [.ref z_numbers, .int z_used, .int z_width, .int z_length]))]) [0] (by decide) rfl
        have hK9 := hK.sub (tys' := []) [] rfl
        refine gQe eQ ?_
        exact W.zret (v := 1) hx hb hr (by decide) (fun t9 ht hW => ⟨⟨1, 1, rfl, rfl, ⟨by decide, by decide⟩, (by omega), (by omega), by rw [ht]; exact hP9, va_K.moved hW.alike hK9, hD9⟩, hS.F ht⟩) hS.2.2 dX5_spans_27
