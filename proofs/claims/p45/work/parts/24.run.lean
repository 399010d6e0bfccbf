set_option maxHeartbeats 4000000 in
set_option maxRecDepth 100000 in
theorem r_expect (l : Launch) (dC : Nat → ClassId) (dI : Nat → Nat → Nat) (sz : Nat) (r : Nat) (a : Int32) (b : Int32) (dv : Value) (r_came : Nat) (r_doneOn : Nat) (r_left : Nat) (r_key : Nat) (r_heardOn : Nat) (r_standing : Nat) (r_pile : Nat) (r_size : Nat) (r_firstOf : Nat) (r_nextOf : Nat) (r_done : Nat) (r_doneCount : Int32) (r_today : Int32) (r_lot : Int64) (kr_firstOf : ClassId) (fr_firstOf : Nat → Int32) (kr_nextOf : ClassId) (fr_nextOf : Nat → Int32) (b_a : (0) ≤ a.toInt ∧ a.toInt ≤ 97) (b_r_doneCount : (0) ≤ r_doneCount.toInt ∧ r_doneCount.toInt ≤ 49) (b_r_today : (0) ≤ r_today.toInt ∧ r_today.toInt ≤ 39) (g_fr_firstOf : bd (-1) (97) fr_firstOf) (g_fr_nextOf : bd (-1) (97) fr_nextOf) : Met l yX4_expect (.code yX4_expect cX4_expect 3 none :: ALLW) ({ frames := 0, cells := 0, slots := 0, locals := 0 }) (va_Pc [.ref r, .int a, .int b] (fun U => U.heap.size = sz ∧ va_P (dC, dI) vwCl [(r, .inr (4, [dv, .ref r_came, .ref r_doneOn, .ref r_left, .ref r_key, .ref r_heardOn, .ref r_standing, .ref r_pile, .ref r_size, .ref r_firstOf, .ref r_nextOf, .ref r_done, .int r_doneCount, .int r_today, .long r_lot])), (r_firstOf, .inl (kr_firstOf, 40, .inl fr_firstOf)), (r_nextOf, .inl (kr_nextOf, 98, .inl fr_nextOf))] U.heap ∧ va_K (dC, dI) vwCl [(kr_firstOf, .int), (kr_nextOf, .int)] U ∧ va_D (fun _ => True) [(r, .inr (4, [dv, .ref r_came, .ref r_doneOn, .ref r_left, .ref r_key, .ref r_heardOn, .ref r_standing, .ref r_pile, .ref r_size, .ref r_firstOf, .ref r_nextOf, .ref r_done, .int r_doneCount, .int r_today, .long r_lot])), (r_firstOf, .inl (kr_firstOf, 40, .inl fr_firstOf)), (r_nextOf, .inl (kr_nextOf, 98, .inl fr_nextOf))])) (va_Qv (fun _ : Unit => True) (fun (_ : Unit) (t9 : State) => ∃ (fr_firstOfz : Nat → Int32) (fr_nextOfz : Nat → Int32), (bd (-1) (97) fr_firstOfz) ∧ (bd (-1) (97) fr_nextOfz) ∧ va_P (dC, dI) vwCl [(r, .inr (4, [dv, .ref r_came, .ref r_doneOn, .ref r_left, .ref r_key, .ref r_heardOn, .ref r_standing, .ref r_pile, .ref r_size, .ref r_firstOf, .ref r_nextOf, .ref r_done, .int r_doneCount, .int r_today, .long r_lot])), (r_firstOf, .inl (kr_firstOf, 40, .inl fr_firstOfz)), (r_nextOf, .inl (kr_nextOf, 98, .inl fr_nextOfz))] t9.heap ∧ va_K (dC, dI) vwCl [] t9 ∧ va_D (va_A [(r, .inr (4, [dv, .ref r_came, .ref r_doneOn, .ref r_left, .ref r_key, .ref r_heardOn, .ref r_standing, .ref r_pile, .ref r_size, .ref r_firstOf, .ref r_nextOf, .ref r_done, .int r_doneCount, .int r_today, .long r_lot])), (r_firstOf, .inl (kr_firstOf, 40, .inl fr_firstOf)), (r_nextOf, .inl (kr_nextOf, 98, .inl fr_nextOf))] sz) [(r, .inr (4, [dv, .ref r_came, .ref r_doneOn, .ref r_left, .ref r_key, .ref r_heardOn, .ref r_standing, .ref r_pile, .ref r_size, .ref r_firstOf, .ref r_nextOf, .ref r_done, .int r_doneCount, .int r_today, .long r_lot])), (r_firstOf, .inl (kr_firstOf, 40, .inl fr_firstOfz)), (r_nextOf, .inl (kr_nextOf, 98, .inl fr_nextOfz))]) (va_A [(r, .inr (4, [dv, .ref r_came, .ref r_doneOn, .ref r_left, .ref r_key, .ref r_heardOn, .ref r_standing, .ref r_pile, .ref r_size, .ref r_firstOf, .ref r_nextOf, .ref r_done, .int r_doneCount, .int r_today, .long r_lot])), (r_firstOf, .inl (kr_firstOf, 40, .inl fr_firstOf)), (r_nextOf, .inl (kr_nextOf, 98, .inl fr_nextOf))] sz)) 0 0 (va_A [(r, .inr (4, [dv, .ref r_came, .ref r_doneOn, .ref r_left, .ref r_key, .ref r_heardOn, .ref r_standing, .ref r_pile, .ref r_size, .ref r_firstOf, .ref r_nextOf, .ref r_done, .int r_doneCount, .int r_today, .long r_lot])), (r_firstOf, .inl (kr_firstOf, 40, .inl fr_firstOf)), (r_nextOf, .inl (kr_nextOf, 98, .inl fr_nextOf))] sz) := by
  refine Met.ofW (cc := cX4_expect) (maxL := 3) (ret := none) (by decide) rfl ?_
  intro pr_ en_ s me_ args below meth c s₁ B hml hv
  obtain ⟨rfl, hsz, hP, hK, hD0⟩ := hv
  have hx := B.exec
  have hb := B.bytes
  have hr := B.returns
  have hts0 := atoms_spec (ws := (.code yX4_expect cX4_expect 3 none :: ALLW)) B.pre
  have hts := fun (w : Cond) (h : w ∈ ALLW) => hts0 w (List.mem_cons_of_mem _ h)
  have hown : s.vm.findClass RX4 = some me_.cls := findClass_of_methodNamed B.named
  have hlocks := B.notSynchronized
  subst hsz
  have hD := hD0.self (sz := s.heap.size)
  generalize hAe : va_A [(r, .inr (4, [dv, .ref r_came, .ref r_doneOn, .ref r_left, .ref r_key, .ref r_heardOn, .ref r_standing, .ref r_pile, .ref r_size, .ref r_firstOf, .ref r_nextOf, .ref r_done, .int r_doneCount, .int r_today, .long r_lot])), (r_firstOf, .inl (kr_firstOf, 40, .inl fr_firstOf)), (r_nextOf, .inl (kr_nextOf, 98, .inl fr_nextOf))] s.heap.size = A at hD ⊢
  have hA : ∀ q : Nat, s.heap.size ≤ q → A q := fun q h => by rw [← hAe]; exact Or.inr h
  have hS : va_S A s.heap s.heap [] := va_S.rf
  have hP : va_P (dC, dI) vwCl [(r, .inr (4, [dv, .ref r_came, .ref r_doneOn, .ref r_left, .ref r_key, .ref r_heardOn, .ref r_standing, .ref r_pile, .ref r_size, .ref r_firstOf, .ref r_nextOf, .ref r_done, .int r_doneCount, .int r_today, .long r_lot])), (r_firstOf, .inl (kr_firstOf, 40, .inl fr_firstOf)), (r_nextOf, .inl (kr_nextOf, 98, .inl fr_nextOf))] s.heap := hP
  have hl := lv_entry ([.ref r, .int a, .int b]) (n := 3) (Nat.le_of_ble_eq_true rfl)
  rw [lg_entry_eq]
  generalize (lg_sl ([.ref r, .int a, .int b]) ++ List.replicate (3 - (lg_sl ([.ref r, .int a, .int b])).length) Slot.unset).toArray = ls at hl ⊢
  have hl : lv_has ls 3 [(0, .ref r), (1, .int a), (2, .int b)] := hl
  refine gQ (fun Q eQ => ?_)
  refine lv_iload_n hx hb dX4_expect_0 rfl (lv_at hl 2 rfl) ?_
  have rg_2 := q_rng b
  refine lv_if_lt (tgt := 29) hx hb dX4_expect_1 (by decide) (fun c_1 => ?_) (fun c_1 => ?_)
  · have ec_1 := q_lt (a := b.toInt) (b := 0) rfl (by decide) c_1
    have hP9 := hP.sub (ws' := [(r, .inr (4, [dv, .ref r_came, .ref r_doneOn, .ref r_left, .ref r_key, .ref r_heardOn, .ref r_standing, .ref r_pile, .ref r_size, .ref r_firstOf, .ref r_nextOf, .ref r_done, .int r_doneCount, .int r_today, .long r_lot])), (r_firstOf, .inl (kr_firstOf, 40, .inl fr_firstOf)), (r_nextOf, .inl (kr_nextOf, 98, .inl fr_nextOf))]) [0, 1, 2] rfl
    have hD9 := hD.sub (ws' := [(r, .inr (4, [dv, .ref r_came, .ref r_doneOn, .ref r_left, .ref r_key, .ref r_heardOn, .ref r_standing, .ref r_pile, .ref r_size, .ref r_firstOf, .ref r_nextOf, .ref r_done, .int r_doneCount, .int r_today, .long r_lot])), (r_firstOf, .inl (kr_firstOf, 40, .inl fr_firstOf)), (r_nextOf, .inl (kr_nextOf, 98, .inl fr_nextOf))]) [0, 1, 2] (by decide) rfl
    have hK9 := hK.sub (tys' := []) [] rfl
    refine gQe eQ ?_
    exact W.vret hx hb hr (fun t9 ht hW => ⟨⟨(), rfl, trivial, fr_firstOf, fr_nextOf, g_fr_firstOf, g_fr_nextOf, by rw [ht]; exact hP9, va_K.moved hW.alike hK9, hD9⟩, hS.F ht⟩) hS.2.2 dX4_expect_29
  · have ec_1 := q_nlt (a := b.toInt) (b := 0) rfl (by decide) c_1
    refine lv_iload_n hx hb dX4_expect_4 rfl (lv_at hl 2 rfl) ?_
    refine lv_bipush (v := 40) hx hb dX4_expect_5 (by decide) ?_
    refine lv_icmp_ge (tgt := 29) hx hb dX4_expect_7 (by decide) (fun c_3 => ?_) (fun c_3 => ?_)
    · have ec_3 := q_ge (a := b.toInt) (b := 40) rfl (by decide) c_3
      have hP9 := hP.sub (ws' := [(r, .inr (4, [dv, .ref r_came, .ref r_doneOn, .ref r_left, .ref r_key, .ref r_heardOn, .ref r_standing, .ref r_pile, .ref r_size, .ref r_firstOf, .ref r_nextOf, .ref r_done, .int r_doneCount, .int r_today, .long r_lot])), (r_firstOf, .inl (kr_firstOf, 40, .inl fr_firstOf)), (r_nextOf, .inl (kr_nextOf, 98, .inl fr_nextOf))]) [0, 1, 2] rfl
      have hD9 := hD.sub (ws' := [(r, .inr (4, [dv, .ref r_came, .ref r_doneOn, .ref r_left, .ref r_key, .ref r_heardOn, .ref r_standing, .ref r_pile, .ref r_size, .ref r_firstOf, .ref r_nextOf, .ref r_done, .int r_doneCount, .int r_today, .long r_lot])), (r_firstOf, .inl (kr_firstOf, 40, .inl fr_firstOf)), (r_nextOf, .inl (kr_nextOf, 98, .inl fr_nextOf))]) [0, 1, 2] (by decide) rfl
      have hK9 := hK.sub (tys' := []) [] rfl
      refine gQe eQ ?_
      exact W.vret hx hb hr (fun t9 ht hW => ⟨⟨(), rfl, trivial, fr_firstOf, fr_nextOf, g_fr_firstOf, g_fr_nextOf, by rw [ht]; exact hP9, va_K.moved hW.alike hK9, hD9⟩, hS.F ht⟩) hS.2.2 dX4_expect_29
    · have ec_3 := q_nge (a := b.toInt) (b := 40) rfl (by decide) c_3
      refine lv_aload_n hx hb dX4_expect_10 rfl (lv_at hl 0 rfl) ?_
      refine va_get (D := (dC, dI)) (ci := 4) (v := .ref r_nextOf) (C := RX4) (T := TX4) (N := 15) hx hb hts inA4 hown hK hP 0 rfl rfl 10 (by decide) (hts _ w_125) (fun _ h9 => h9) rfl dX4_expect_11 ?_
      refine lv_iload_n hx hb dX4_expect_14 rfl (lv_at hl 1 rfl) ?_
      refine lv_aload_n hx hb dX4_expect_15 rfl (lv_at hl 0 rfl) ?_
      refine va_get (D := (dC, dI)) (ci := 4) (v := .ref r_firstOf) (C := RX4) (T := TX4) (N := 15) hx hb hts inA4 hown hK hP 0 rfl rfl 9 (by decide) (hts _ w_124) (fun _ h9 => h9) rfl dX4_expect_16 ?_
      refine lv_iload_n hx hb dX4_expect_19 rfl (lv_at hl 2 rfl) ?_
      refine va_iald hx hb hK hP 1 0 rfl rfl (vp_in_iff.mpr ⟨by omega, by omega⟩) dX4_expect_20 ?_
      refine lv_topi (fun x_4 ex_4 => ?_)
      have b_x_4 := bd.at g_fr_firstOf ex_4
      refine va_iast hx hb hK hP hD hS 2 1 rfl rfl (vp_in_iff.mpr ⟨Int.le_trans (by decide) b_a.1, Int.lt_of_le_of_lt b_a.2 (by decide)⟩) dX4_expect_21 (fun H locs hP hD hS => ?_)
      have g_f_5 := bd_upd (k := (a : Int32).toNatClampNeg) (x := x_4) (a := x_4.toInt) g_fr_nextOf rfl (by omega) (by omega)
      generalize ef_5 : upd fr_nextOf (a : Int32).toNatClampNeg x_4 = f_5 at hP hD g_f_5
      have hP : va_P (dC, dI) vwCl [(r, .inr (4, [dv, .ref r_came, .ref r_doneOn, .ref r_left, .ref r_key, .ref r_heardOn, .ref r_standing, .ref r_pile, .ref r_size, .ref r_firstOf, .ref r_nextOf, .ref r_done, .int r_doneCount, .int r_today, .long r_lot])), (r_firstOf, .inl (kr_firstOf, 40, .inl fr_firstOf)), (r_nextOf, .inl (kr_nextOf, 98, .inl f_5))] H := hP
      have hD : va_D A [(r, .inr (4, [dv, .ref r_came, .ref r_doneOn, .ref r_left, .ref r_key, .ref r_heardOn, .ref r_standing, .ref r_pile, .ref r_size, .ref r_firstOf, .ref r_nextOf, .ref r_done, .int r_doneCount, .int r_today, .long r_lot])), (r_firstOf, .inl (kr_firstOf, 40, .inl fr_firstOf)), (r_nextOf, .inl (kr_nextOf, 98, .inl f_5))] := hD
      refine lv_aload_n hx hb dX4_expect_22 rfl (lv_at hl 0 rfl) ?_
      refine va_get (D := (dC, dI)) (ci := 4) (v := .ref r_firstOf) (C := RX4) (T := TX4) (N := 15) hx hb hts inA4 hown hK hP 0 rfl rfl 9 (by decide) (hts _ w_124) (fun _ h9 => h9) rfl dX4_expect_23 ?_
      refine lv_iload_n hx hb dX4_expect_26 rfl (lv_at hl 2 rfl) ?_
      refine lv_iload_n hx hb dX4_expect_27 rfl (lv_at hl 1 rfl) ?_
      refine va_iast hx hb hK hP hD hS 1 0 rfl rfl (vp_in_iff.mpr ⟨by omega, by omega⟩) dX4_expect_28 (fun H locs hP hD hS => ?_)
      have g_f_6 := bd_upd (k := (b : Int32).toNatClampNeg) (x := a) (a := a.toInt) g_fr_firstOf rfl (by omega) (by omega)
      generalize ef_6 : upd fr_firstOf (b : Int32).toNatClampNeg a = f_6 at hP hD g_f_6
      have hP : va_P (dC, dI) vwCl [(r, .inr (4, [dv, .ref r_came, .ref r_doneOn, .ref r_left, .ref r_key, .ref r_heardOn, .ref r_standing, .ref r_pile, .ref r_size, .ref r_firstOf, .ref r_nextOf, .ref r_done, .int r_doneCount, .int r_today, .long r_lot])), (r_firstOf, .inl (kr_firstOf, 40, .inl f_6)), (r_nextOf, .inl (kr_nextOf, 98, .inl f_5))] H := hP
      have hD : va_D A [(r, .inr (4, [dv, .ref r_came, .ref r_doneOn, .ref r_left, .ref r_key, .ref r_heardOn, .ref r_standing, .ref r_pile, .ref r_size, .ref r_firstOf, .ref r_nextOf, .ref r_done, .int r_doneCount, .int r_today, .long r_lot])), (r_firstOf, .inl (kr_firstOf, 40, .inl f_6)), (r_nextOf, .inl (kr_nextOf, 98, .inl f_5))] := hD
      have hP9 := hP.sub (ws' := [(r, .inr (4, [dv, .ref r_came, .ref r_doneOn, .ref r_left, .ref r_key, .ref r_heardOn, .ref r_standing, .ref r_pile, .ref r_size, .ref r_firstOf, .ref r_nextOf, .ref r_done, .int r_doneCount, .int r_today, .long r_lot])), (r_firstOf, .inl (kr_firstOf, 40, .inl f_6)), (r_nextOf, .inl (kr_nextOf, 98, .inl f_5))]) [0, 1, 2] rfl
      have hD9 := hD.sub (ws' := [(r, .inr (4, [dv, .ref r_came, .ref r_doneOn, .ref r_left, .ref r_key, .ref r_heardOn, .ref r_standing, .ref r_pile, .ref r_size, .ref r_firstOf, .ref r_nextOf, .ref r_done, .int r_doneCount, .int r_today, .long r_lot])), (r_firstOf, .inl (kr_firstOf, 40, .inl f_6)), (r_nextOf, .inl (kr_nextOf, 98, .inl f_5))]) [0, 1, 2] (by decide) rfl
      have hK9 := hK.sub (tys' := []) [] rfl
      refine gQe eQ ?_
      exact W.vret hx hb hr (fun t9 ht hW => ⟨⟨(), rfl, trivial, f_6, f_5, g_f_6, g_f_5, by rw [ht]; exact hP9, va_K.moved hW.alike hK9, hD9⟩, hS.F ht⟩) hS.2.2 dX4_expect_29
set_option maxHeartbeats 4000000 in
set_option maxRecDepth 100000 in
theorem r_hear (l : Launch) (dC : Nat → ClassId) (dI : Nat → Nat → Nat) (sz : Nat) (r : Nat) (a : Int32) (b : Int32) (dv : Value) (r_came : Nat) (r_doneOn : Nat) (r_left : Nat) (r_key : Nat) (r_heardOn : Nat) (r_standing : Nat) (r_pile : Nat) (r_size : Nat) (r_firstOf : Nat) (r_nextOf : Nat) (r_done : Nat) (r_doneCount : Int32) (r_today : Int32) (r_lot : Int64) (kr_heardOn : ClassId) (fr_heardOn : Nat → Int32) (b_a : (0) ≤ a.toInt ∧ a.toInt ≤ 7) (b_b : (0) ≤ b.toInt ∧ b.toInt ≤ 7) (b_r_doneCount : (0) ≤ r_doneCount.toInt ∧ r_doneCount.toInt ≤ 49) (b_r_today : (0) ≤ r_today.toInt ∧ r_today.toInt ≤ 39) : Met l yX4_hear (.code yX4_hear cX4_hear 3 none :: ALLW) ({ frames := 0, cells := 0, slots := 0, locals := 0 }) (va_Pc [.ref r, .int a, .int b] (fun U => U.heap.size = sz ∧ va_P (dC, dI) vwCl [(r, .inr (4, [dv, .ref r_came, .ref r_doneOn, .ref r_left, .ref r_key, .ref r_heardOn, .ref r_standing, .ref r_pile, .ref r_size, .ref r_firstOf, .ref r_nextOf, .ref r_done, .int r_doneCount, .int r_today, .long r_lot])), (r_heardOn, .inl (kr_heardOn, 64, .inl fr_heardOn))] U.heap ∧ va_K (dC, dI) vwCl [(kr_heardOn, .int)] U ∧ va_D (fun _ => True) [(r, .inr (4, [dv, .ref r_came, .ref r_doneOn, .ref r_left, .ref r_key, .ref r_heardOn, .ref r_standing, .ref r_pile, .ref r_size, .ref r_firstOf, .ref r_nextOf, .ref r_done, .int r_doneCount, .int r_today, .long r_lot])), (r_heardOn, .inl (kr_heardOn, 64, .inl fr_heardOn))])) (va_Qv (fun _ : Unit => True) (fun (_ : Unit) (t9 : State) => ∃ (fr_heardOnz : Nat → Int32), va_P (dC, dI) vwCl [(r, .inr (4, [dv, .ref r_came, .ref r_doneOn, .ref r_left, .ref r_key, .ref r_heardOn, .ref r_standing, .ref r_pile, .ref r_size, .ref r_firstOf, .ref r_nextOf, .ref r_done, .int r_doneCount, .int r_today, .long r_lot])), (r_heardOn, .inl (kr_heardOn, 64, .inl fr_heardOnz))] t9.heap ∧ va_K (dC, dI) vwCl [] t9 ∧ va_D (va_A [(r, .inr (4, [dv, .ref r_came, .ref r_doneOn, .ref r_left, .ref r_key, .ref r_heardOn, .ref r_standing, .ref r_pile, .ref r_size, .ref r_firstOf, .ref r_nextOf, .ref r_done, .int r_doneCount, .int r_today, .long r_lot])), (r_heardOn, .inl (kr_heardOn, 64, .inl fr_heardOn))] sz) [(r, .inr (4, [dv, .ref r_came, .ref r_doneOn, .ref r_left, .ref r_key, .ref r_heardOn, .ref r_standing, .ref r_pile, .ref r_size, .ref r_firstOf, .ref r_nextOf, .ref r_done, .int r_doneCount, .int r_today, .long r_lot])), (r_heardOn, .inl (kr_heardOn, 64, .inl fr_heardOnz))]) (va_A [(r, .inr (4, [dv, .ref r_came, .ref r_doneOn, .ref r_left, .ref r_key, .ref r_heardOn, .ref r_standing, .ref r_pile, .ref r_size, .ref r_firstOf, .ref r_nextOf, .ref r_done, .int r_doneCount, .int r_today, .long r_lot])), (r_heardOn, .inl (kr_heardOn, 64, .inl fr_heardOn))] sz)) 0 0 (va_A [(r, .inr (4, [dv, .ref r_came, .ref r_doneOn, .ref r_left, .ref r_key, .ref r_heardOn, .ref r_standing, .ref r_pile, .ref r_size, .ref r_firstOf, .ref r_nextOf, .ref r_done, .int r_doneCount, .int r_today, .long r_lot])), (r_heardOn, .inl (kr_heardOn, 64, .inl fr_heardOn))] sz) := by
  refine Met.ofW (cc := cX4_hear) (maxL := 3) (ret := none) (by decide) rfl ?_
  intro pr_ en_ s me_ args below meth c s₁ B hml hv
  obtain ⟨rfl, hsz, hP, hK, hD0⟩ := hv
  have hx := B.exec
  have hb := B.bytes
  have hr := B.returns
  have hts0 := atoms_spec (ws := (.code yX4_hear cX4_hear 3 none :: ALLW)) B.pre
  have hts := fun (w : Cond) (h : w ∈ ALLW) => hts0 w (List.mem_cons_of_mem _ h)
  have hown : s.vm.findClass RX4 = some me_.cls := findClass_of_methodNamed B.named
  have hlocks := B.notSynchronized
  subst hsz
  have hD := hD0.self (sz := s.heap.size)
  generalize hAe : va_A [(r, .inr (4, [dv, .ref r_came, .ref r_doneOn, .ref r_left, .ref r_key, .ref r_heardOn, .ref r_standing, .ref r_pile, .ref r_size, .ref r_firstOf, .ref r_nextOf, .ref r_done, .int r_doneCount, .int r_today, .long r_lot])), (r_heardOn, .inl (kr_heardOn, 64, .inl fr_heardOn))] s.heap.size = A at hD ⊢
  have hA : ∀ q : Nat, s.heap.size ≤ q → A q := fun q h => by rw [← hAe]; exact Or.inr h
  have hS : va_S A s.heap s.heap [] := va_S.rf
  have hP : va_P (dC, dI) vwCl [(r, .inr (4, [dv, .ref r_came, .ref r_doneOn, .ref r_left, .ref r_key, .ref r_heardOn, .ref r_standing, .ref r_pile, .ref r_size, .ref r_firstOf, .ref r_nextOf, .ref r_done, .int r_doneCount, .int r_today, .long r_lot])), (r_heardOn, .inl (kr_heardOn, 64, .inl fr_heardOn))] s.heap := hP
  have hl := lv_entry ([.ref r, .int a, .int b]) (n := 3) (Nat.le_of_ble_eq_true rfl)
  rw [lg_entry_eq]
  generalize (lg_sl ([.ref r, .int a, .int b]) ++ List.replicate (3 - (lg_sl ([.ref r, .int a, .int b])).length) Slot.unset).toArray = ls at hl ⊢
  have hl : lv_has ls 3 [(0, .ref r), (1, .int a), (2, .int b)] := hl
  refine gQ (fun Q eQ => ?_)
  refine lv_aload_n hx hb dX4_hear_0 rfl (lv_at hl 0 rfl) ?_
  refine va_get (D := (dC, dI)) (ci := 4) (v := .ref r_heardOn) (C := RX4) (T := TX4) (N := 15) hx hb hts inA4 hown hK hP 0 rfl rfl 5 (by decide) (hts _ w_120) (fun _ h9 => h9) rfl dX4_hear_1 ?_
  refine lv_iload_n hx hb dX4_hear_4 rfl (lv_at hl 1 rfl) ?_
  refine lv_bipush (v := 8) hx hb dX4_hear_5 (by decide) ?_
  refine lv_imul hx hb dX4_hear_7 ?_
  refine lv_topi (fun x_1 ex_1 => ?_)
  have b_x_1 := q_mul (a := a.toInt) (b := 8) ex_1 rfl (by decide) (by omega) (by omega)
  refine lv_iload_n hx hb dX4_hear_8 rfl (lv_at hl 2 rfl) ?_
  refine lv_iadd hx hb dX4_hear_9 ?_
  refine lv_topi (fun x_2 ex_2 => ?_)
  have b_x_2 := q_add (a := x_1.toInt) (b := b.toInt) ex_2 rfl rfl (by omega) (by omega)
  refine va_iald hx hb hK hP 1 0 rfl rfl (vp_in_iff.mpr ⟨by omega, by omega⟩) dX4_hear_10 ?_
  refine lv_topi (fun x_3 ex_3 => ?_)
  refine lv_iconst (v := (-1)) hx hb dX4_hear_11 (by decide) ?_
  have rg_5 := q_rng x_3
  refine lv_icmp_ne (tgt := 30) hx hb dX4_hear_12 (by decide) (fun c_4 => ?_) (fun c_4 => ?_)
  · have ec_4 := q_ne (a := x_3.toInt) (b := -1) rfl (by decide) c_4
    have hP9 := hP.sub (ws' := [(r, .inr (4, [dv, .ref r_came, .ref r_doneOn, .ref r_left, .ref r_key, .ref r_heardOn, .ref r_standing, .ref r_pile, .ref r_size, .ref r_firstOf, .ref r_nextOf, .ref r_done, .int r_doneCount, .int r_today, .long r_lot])), (r_heardOn, .inl (kr_heardOn, 64, .inl fr_heardOn))]) [0, 1] rfl
    have hD9 := hD.sub (ws' := [(r, .inr (4, [dv, .ref r_came, .ref r_doneOn, .ref r_left, .ref r_key, .ref r_heardOn, .ref r_standing, .ref r_pile, .ref r_size, .ref r_firstOf, .ref r_nextOf, .ref r_done, .int r_doneCount, .int r_today, .long r_lot])), (r_heardOn, .inl (kr_heardOn, 64, .inl fr_heardOn))]) [0, 1] (by decide) rfl
    have hK9 := hK.sub (tys' := []) [] rfl
    refine gQe eQ ?_
    exact W.vret hx hb hr (fun t9 ht hW => ⟨⟨(), rfl, trivial, fr_heardOn, by rw [ht]; exact hP9, va_K.moved hW.alike hK9, hD9⟩, hS.F ht⟩) hS.2.2 dX4_hear_30
  · have ec_4 := q_nne (a := x_3.toInt) (b := -1) rfl (by decide) c_4
    refine lv_aload_n hx hb dX4_hear_15 rfl (lv_at hl 0 rfl) ?_
    refine va_get (D := (dC, dI)) (ci := 4) (v := .ref r_heardOn) (C := RX4) (T := TX4) (N := 15) hx hb hts inA4 hown hK hP 0 rfl rfl 5 (by decide) (hts _ w_120) (fun _ h9 => h9) rfl dX4_hear_16 ?_
    refine lv_iload_n hx hb dX4_hear_19 rfl (lv_at hl 1 rfl) ?_
    refine lv_bipush (v := 8) hx hb dX4_hear_20 (by decide) ?_
    refine lv_imul hx hb dX4_hear_22 ?_
    refine lv_topi (fun x_6 ex_6 => ?_)
    rw [show x_6 = x_1 from ex_6.trans ex_1.symm]
    clear ex_6 x_6
    refine lv_iload_n hx hb dX4_hear_23 rfl (lv_at hl 2 rfl) ?_
    refine lv_iadd hx hb dX4_hear_24 ?_
    refine lv_topi (fun x_7 ex_7 => ?_)
    rw [show x_7 = x_2 from ex_7.trans ex_2.symm]
    clear ex_7 x_7
    refine lv_aload_n hx hb dX4_hear_25 rfl (lv_at hl 0 rfl) ?_
    refine va_get (D := (dC, dI)) (ci := 4) (v := .int r_today) (C := RX4) (T := TX4) (N := 15) hx hb hts inA4 hown hK hP 0 rfl rfl 13 (by decide) (hts _ w_128) (fun _ h9 => h9) rfl dX4_hear_26 ?_
    refine va_iast hx hb hK hP hD hS 1 0 rfl rfl (vp_in_iff.mpr ⟨by omega, by omega⟩) dX4_hear_29 (fun H locs hP hD hS => ?_)
    generalize ef_8 : upd fr_heardOn (x_2 : Int32).toNatClampNeg r_today = f_8 at hP hD
    have hP : va_P (dC, dI) vwCl [(r, .inr (4, [dv, .ref r_came, .ref r_doneOn, .ref r_left, .ref r_key, .ref r_heardOn, .ref r_standing, .ref r_pile, .ref r_size, .ref r_firstOf, .ref r_nextOf, .ref r_done, .int r_doneCount, .int r_today, .long r_lot])), (r_heardOn, .inl (kr_heardOn, 64, .inl f_8))] H := hP
    have hD : va_D A [(r, .inr (4, [dv, .ref r_came, .ref r_doneOn, .ref r_left, .ref r_key, .ref r_heardOn, .ref r_standing, .ref r_pile, .ref r_size, .ref r_firstOf, .ref r_nextOf, .ref r_done, .int r_doneCount, .int r_today, .long r_lot])), (r_heardOn, .inl (kr_heardOn, 64, .inl f_8))] := hD
    have hP9 := hP.sub (ws' := [(r, .inr (4, [dv, .ref r_came, .ref r_doneOn, .ref r_left, .ref r_key, .ref r_heardOn, .ref r_standing, .ref r_pile, .ref r_size, .ref r_firstOf, .ref r_nextOf, .ref r_done, .int r_doneCount, .int r_today, .long r_lot])), (r_heardOn, .inl (kr_heardOn, 64, .inl f_8))]) [0, 1] rfl
    have hD9 := hD.sub (ws' := [(r, .inr (4, [dv, .ref r_came, .ref r_doneOn, .ref r_left, .ref r_key, .ref r_heardOn, .ref r_standing, .ref r_pile, .ref r_size, .ref r_firstOf, .ref r_nextOf, .ref r_done, .int r_doneCount, .int r_today, .long r_lot])), (r_heardOn, .inl (kr_heardOn, 64, .inl f_8))]) [0, 1] (by decide) rfl
    have hK9 := hK.sub (tys' := []) [] rfl
    refine gQe eQ ?_
    exact W.vret hx hb hr (fun t9 ht hW => ⟨⟨(), rfl, trivial, f_8, by rw [ht]; exact hP9, va_K.moved hW.alike hK9, hD9⟩, hS.F ht⟩) hS.2.2 dX4_hear_30
set_option maxHeartbeats 4000000 in
set_option maxRecDepth 100000 in
theorem r_draw (l : Launch) (dC : Nat → ClassId) (dI : Nat → Nat → Nat) (sz : Nat) (r : Nat) (a : Int32) (dv : Value) (r_came : Nat) (r_doneOn : Nat) (r_left : Nat) (r_key : Nat) (r_heardOn : Nat) (r_standing : Nat) (r_pile : Nat) (r_size : Nat) (r_firstOf : Nat) (r_nextOf : Nat) (r_done : Nat) (r_doneCount : Int32) (r_today : Int32) (r_lot : Int64) (b_a : (1) ≤ a.toInt ∧ a.toInt ≤ 49) (b_r_doneCount : (0) ≤ r_doneCount.toInt ∧ r_doneCount.toInt ≤ 49) (b_r_today : (0) ≤ r_today.toInt ∧ r_today.toInt ≤ 39) : Met l yX4_draw (.code yX4_draw cX4_draw 2 (some .int) :: ALLW) ({ frames := 0, cells := 0, slots := 0, locals := 0 }) (va_Pc [.ref r, .int a] (fun U => U.heap.size = sz ∧ va_P (dC, dI) vwCl [(r, .inr (4, [dv, .ref r_came, .ref r_doneOn, .ref r_left, .ref r_key, .ref r_heardOn, .ref r_standing, .ref r_pile, .ref r_size, .ref r_firstOf, .ref r_nextOf, .ref r_done, .int r_doneCount, .int r_today, .long r_lot]))] U.heap ∧ va_K (dC, dI) vwCl [] U ∧ va_D (fun _ => True) [(r, .inr (4, [dv, .ref r_came, .ref r_doneOn, .ref r_left, .ref r_key, .ref r_heardOn, .ref r_standing, .ref r_pile, .ref r_size, .ref r_firstOf, .ref r_nextOf, .ref r_done, .int r_doneCount, .int r_today, .long r_lot]))])) (va_Qi (fun (r u : Int32) => r = u) (fun (u : Int32) (t9 : State) => ∃ (r_lotz : Int64), ((0) ≤ u.toInt ∧ u.toInt ≤ 48) ∧ (u.toInt < a.toInt) ∧ va_P (dC, dI) vwCl [(r, .inr (4, [dv, .ref r_came, .ref r_doneOn, .ref r_left, .ref r_key, .ref r_heardOn, .ref r_standing, .ref r_pile, .ref r_size, .ref r_firstOf, .ref r_nextOf, .ref r_done, .int r_doneCount, .int r_today, .long r_lotz]))] t9.heap ∧ va_K (dC, dI) vwCl [] t9 ∧ va_D (va_A [(r, .inr (4, [dv, .ref r_came, .ref r_doneOn, .ref r_left, .ref r_key, .ref r_heardOn, .ref r_standing, .ref r_pile, .ref r_size, .ref r_firstOf, .ref r_nextOf, .ref r_done, .int r_doneCount, .int r_today, .long r_lot]))] sz) [(r, .inr (4, [dv, .ref r_came, .ref r_doneOn, .ref r_left, .ref r_key, .ref r_heardOn, .ref r_standing, .ref r_pile, .ref r_size, .ref r_firstOf, .ref r_nextOf, .ref r_done, .int r_doneCount, .int r_today, .long r_lotz]))]) (va_A [(r, .inr (4, [dv, .ref r_came, .ref r_doneOn, .ref r_left, .ref r_key, .ref r_heardOn, .ref r_standing, .ref r_pile, .ref r_size, .ref r_firstOf, .ref r_nextOf, .ref r_done, .int r_doneCount, .int r_today, .long r_lot]))] sz)) 0 0 (va_A [(r, .inr (4, [dv, .ref r_came, .ref r_doneOn, .ref r_left, .ref r_key, .ref r_heardOn, .ref r_standing, .ref r_pile, .ref r_size, .ref r_firstOf, .ref r_nextOf, .ref r_done, .int r_doneCount, .int r_today, .long r_lot]))] sz) := by
  refine Met.ofW (cc := cX4_draw) (maxL := 2) (ret := (some .int)) (by decide) rfl ?_
  intro pr_ en_ s me_ args below meth c s₁ B hml hv
  obtain ⟨rfl, hsz, hP, hK, hD0⟩ := hv
  have hx := B.exec
  have hb := B.bytes
  have hr := B.returns
  have hts0 := atoms_spec (ws := (.code yX4_draw cX4_draw 2 (some .int) :: ALLW)) B.pre
  have hts := fun (w : Cond) (h : w ∈ ALLW) => hts0 w (List.mem_cons_of_mem _ h)
  have hown : s.vm.findClass RX4 = some me_.cls := findClass_of_methodNamed B.named
  have hlocks := B.notSynchronized
  subst hsz
  have hD := hD0.self (sz := s.heap.size)
  generalize hAe : va_A [(r, .inr (4, [dv, .ref r_came, .ref r_doneOn, .ref r_left, .ref r_key, .ref r_heardOn, .ref r_standing, .ref r_pile, .ref r_size, .ref r_firstOf, .ref r_nextOf, .ref r_done, .int r_doneCount, .int r_today, .long r_lot]))] s.heap.size = A at hD ⊢
  have hA : ∀ q : Nat, s.heap.size ≤ q → A q := fun q h => by rw [← hAe]; exact Or.inr h
  have hS : va_S A s.heap s.heap [] := va_S.rf
  have hP : va_P (dC, dI) vwCl [(r, .inr (4, [dv, .ref r_came, .ref r_doneOn, .ref r_left, .ref r_key, .ref r_heardOn, .ref r_standing, .ref r_pile, .ref r_size, .ref r_firstOf, .ref r_nextOf, .ref r_done, .int r_doneCount, .int r_today, .long r_lot]))] s.heap := hP
  have hl := lv_entry ([.ref r, .int a]) (n := 2) (Nat.le_of_ble_eq_true rfl)
  rw [lg_entry_eq]
  generalize (lg_sl ([.ref r, .int a]) ++ List.replicate (2 - (lg_sl ([.ref r, .int a])).length) Slot.unset).toArray = ls at hl ⊢
  have hl : lv_has ls 2 [(0, .ref r), (1, .int a)] := hl
  refine gQ (fun Q eQ => ?_)
  refine lv_aload_n hx hb dX4_draw_0 rfl (lv_at hl 0 rfl) ?_
  refine lv_ldc2 hx hb hown (hts _ w_667) dX4_draw_1 ?_
  refine lv_aload_n hx hb dX4_draw_4 rfl (lv_at hl 0 rfl) ?_
  refine va_get (D := (dC, dI)) (ci := 4) (v := .long r_lot) (C := RX4) (T := TX4) (N := 15) hx hb hts inA4 hown hK hP 0 rfl rfl 14 (by decide) (hts _ w_129) (fun _ h9 => h9) rfl dX4_draw_5 ?_
  refine lv_lmul hx hb dX4_draw_8 ?_
  refine lv_topl (fun x_1 ex_1 => ?_)
  refine lv_ldc2 hx hb hown (hts _ w_668) dX4_draw_9 ?_
  refine lv_ladd hx hb dX4_draw_12 ?_
  refine lv_topl (fun x_2 ex_2 => ?_)
  refine lv_ldc2 hx hb hown (hts _ w_669) dX4_draw_13 ?_
  refine lv_land hx hb dX4_draw_16 ?_
  refine lv_topl (fun x_3 ex_3 => ?_)
  have b_x_3 := q_land31 ex_3
  refine va_put (D := (dC, dI)) (ci := 4) (v := .long x_3) (ty := tyX4 14) (C := RX4) (T := TX4) (N := 15) hx hb hts inA4 tyX4 tyX4_ok nmX4 hown hK hP hD hS 0 rfl rfl 14 (by decide) (hts _ w_129) (fun _ h9 => h9) rfl (tyX4_ok 14 (by decide)) rfl rfl (Nat.le_of_ble_eq_true rfl) dX4_draw_17 (fun H locs hP hD hS => ?_)
  have hP : va_P (dC, dI) vwCl [(r, .inr (4, [dv, .ref r_came, .ref r_doneOn, .ref r_left, .ref r_key, .ref r_heardOn, .ref r_standing, .ref r_pile, .ref r_size, .ref r_firstOf, .ref r_nextOf, .ref r_done, .int r_doneCount, .int r_today, .long x_3]))] H := hP
  have hD : va_D A [(r, .inr (4, [dv, .ref r_came, .ref r_doneOn, .ref r_left, .ref r_key, .ref r_heardOn, .ref r_standing, .ref r_pile, .ref r_size, .ref r_firstOf, .ref r_nextOf, .ref r_done, .int r_doneCount, .int r_today, .long x_3]))] := hD
  refine lv_iload_n hx hb dX4_draw_20 rfl (lv_at hl 1 rfl) ?_
  refine lv_iconst (v := 1) hx hb dX4_draw_21 (by decide) ?_
  refine lv_icmp_ge (tgt := 29) hx hb dX4_draw_22 (by decide) (fun c_4 => ?_) (fun c_4 => absurd (q_nge (a := a.toInt) (b := 1) rfl (by decide) c_4) (by omega))
  have ec_4 := q_ge (a := a.toInt) (b := 1) rfl (by decide) c_4
  refine lv_aload_n hx hb dX4_draw_29 rfl (lv_at hl 0 rfl) ?_
  refine va_get (D := (dC, dI)) (ci := 4) (v := .long x_3) (C := RX4) (T := TX4) (N := 15) hx hb hts inA4 hown hK hP 0 rfl rfl 14 (by decide) (hts _ w_129) (fun _ h9 => h9) rfl dX4_draw_30 ?_
  refine lv_ldc2 hx hb hown (hts _ w_670) dX4_draw_33 ?_
  refine lv_ldiv hx hb dX4_draw_36 (by decide) ?_
  refine lv_topl (fun x_5 ex_5 => ?_)
  have b_x_5 := q_divL (a := x_3.toInt) (b := 65536) ex_5 rfl (by decide) (by omega) (by omega)
  refine lv_iload_n hx hb dX4_draw_37 rfl (lv_at hl 1 rfl) ?_
  obtain ⟨y_6, ey_6⟩ : ∃ y : Int64, y.toInt = a.toInt ∧ a.toInt64 = y := ⟨_, Int32.toInt_toInt64 _, rfl⟩
  refine lv_i2l (v := y_6) hx hb dX4_draw_38 ey_6.2 ?_
  have b_y_6 := ey_6.1
  refine lv_lrem hx hb dX4_draw_39 (q_posL (by omega)) ?_
  refine lv_topl (fun x_7 ex_7 => ?_)
  have b_x_7 := q_remL (a := x_5.toInt) (b := y_6.toInt) ex_7 rfl rfl (by omega) (by omega)
  obtain ⟨y_8, ey_8⟩ : ∃ y : Int32, (x_7 : Int64).toInt32 = y := ⟨_, rfl⟩
  refine lv_l2i (v := y_8) hx hb dX4_draw_40 ey_8 ?_
  have b_y_8 := q_l2i (a := x_7.toInt) ey_8 rfl (by omega) (by omega)
  have bq_9 : (0) ≤ y_8.toInt ∧ y_8.toInt ≤ 48 := ⟨by omega, by omega⟩
  have hP9 := hP.sub (ws' := [(r, .inr (4, [dv, .ref r_came, .ref r_doneOn, .ref r_left, .ref r_key, .ref r_heardOn, .ref r_standing, .ref r_pile, .ref r_size, .ref r_firstOf, .ref r_nextOf, .ref r_done, .int r_doneCount, .int r_today, .long x_3]))]) [0] rfl
  have hD9 := hD.sub (ws' := [(r, .inr (4, [dv, .ref r_came, .ref r_doneOn, .ref r_left, .ref r_key, .ref r_heardOn, .ref r_standing, .ref r_pile, .ref r_size, .ref r_firstOf, .ref r_nextOf, .ref r_done, .int r_doneCount, .int r_today, .long x_3]))]) [0] (by decide) rfl
  have hK9 := hK.sub (tys' := []) [] rfl
  refine gQe eQ ?_
  exact W.iret (v := y_8) hx hb hr (fun t9 ht hW => ⟨⟨y_8, y_8, rfl, rfl, x_3, bq_9, (by omega), by rw [ht]; exact hP9, va_K.moved hW.alike hK9, hD9⟩, hS.F ht⟩) hS.2.2 dX4_draw_41
set_option maxHeartbeats 4000000 in
set_option maxRecDepth 100000 in
theorem r_takeAway (l : Launch) (dC : Nat → ClassId) (dI : Nat → Nat → Nat) (sz : Nat) (r : Nat) (a : Int32) (b : Int32) (dv : Value) (r_came : Nat) (r_doneOn : Nat) (r_left : Nat) (r_key : Nat) (r_heardOn : Nat) (r_standing : Nat) (r_pile : Nat) (r_size : Nat) (r_firstOf : Nat) (r_nextOf : Nat) (r_done : Nat) (r_doneCount : Int32) (r_today : Int32) (r_lot : Int64) (kr_pile : ClassId) (fr_pile : Nat → Int32) (kr_size : ClassId) (fr_size : Nat → Int32) (kr_left : ClassId) (fr_left : Nat → Int32) (kr_doneOn : ClassId) (fr_doneOn : Nat → Int32) (kr_done : ClassId) (fr_done : Nat → Int32) (x0 : Int32) (b_a : (0) ≤ a.toInt ∧ a.toInt ≤ 7) (b_b : (0) ≤ b.toInt ∧ b.toInt ≤ 48) (b_r_doneCount : (0) ≤ r_doneCount.toInt ∧ r_doneCount.toInt ≤ 49) (b_r_today : (0) ≤ r_today.toInt ∧ r_today.toInt ≤ 39) (g_fr_pile : bd (0) (48) fr_pile) (g_fr_size : bd (0) (49) fr_size) (b_x0 : (1) ≤ x0.toInt ∧ x0.toInt ≤ 49) (ex0 : x0 = fr_size (a : Int32).toNatClampNeg) (hx0 : b.toInt < x0.toInt) : Met l yX4_takeAway (.code yX4_takeAway cX4_takeAway 5 none :: ALLW) ({ frames := 1, cells := 0, slots := 0, locals := 64 }) (va_Pc [.ref r, .int a, .int b] (fun U => U.heap.size = sz ∧ va_P (dC, dI) vwCl [(r, .inr (4, [dv, .ref r_came, .ref r_doneOn, .ref r_left, .ref r_key, .ref r_heardOn, .ref r_standing, .ref r_pile, .ref r_size, .ref r_firstOf, .ref r_nextOf, .ref r_done, .int r_doneCount, .int r_today, .long r_lot])), (r_pile, .inl (kr_pile, 392, .inl fr_pile)), (r_size, .inl (kr_size, 8, .inl fr_size)), (r_left, .inl (kr_left, 49, .inl fr_left)), (r_doneOn, .inl (kr_doneOn, 49, .inl fr_doneOn)), (r_done, .inl (kr_done, 49, .inl fr_done))] U.heap ∧ va_K (dC, dI) vwCl [(kr_pile, .int), (kr_size, .int), (kr_left, .int), (kr_doneOn, .int), (kr_done, .int)] U ∧ va_D (fun _ => True) [(r, .inr (4, [dv, .ref r_came, .ref r_doneOn, .ref r_left, .ref r_key, .ref r_heardOn, .ref r_standing, .ref r_pile, .ref r_size, .ref r_firstOf, .ref r_nextOf, .ref r_done, .int r_doneCount, .int r_today, .long r_lot])), (r_pile, .inl (kr_pile, 392, .inl fr_pile)), (r_size, .inl (kr_size, 8, .inl fr_size)), (r_left, .inl (kr_left, 49, .inl fr_left)), (r_doneOn, .inl (kr_doneOn, 49, .inl fr_doneOn)), (r_done, .inl (kr_done, 49, .inl fr_done))])) (va_Qv (fun _ : Unit => True) (fun (_ : Unit) (t9 : State) => ∃ (r_doneCountz : Int32) (fr_pilez : Nat → Int32) (fr_sizez : Nat → Int32) (fr_leftz : Nat → Int32) (fr_doneOnz : Nat → Int32) (fr_donez : Nat → Int32), ((0) ≤ r_doneCountz.toInt ∧ r_doneCountz.toInt ≤ 49) ∧ (bd (0) (48) fr_pilez) ∧ (bd (0) (49) fr_sizez) ∧ va_P (dC, dI) vwCl [(r, .inr (4, [dv, .ref r_came, .ref r_doneOn, .ref r_left, .ref r_key, .ref r_heardOn, .ref r_standing, .ref r_pile, .ref r_size, .ref r_firstOf, .ref r_nextOf, .ref r_done, .int r_doneCountz, .int r_today, .long r_lot])), (r_pile, .inl (kr_pile, 392, .inl fr_pilez)), (r_size, .inl (kr_size, 8, .inl fr_sizez)), (r_left, .inl (kr_left, 49, .inl fr_leftz)), (r_doneOn, .inl (kr_doneOn, 49, .inl fr_doneOnz)), (r_done, .inl (kr_done, 49, .inl fr_donez))] t9.heap ∧ va_K (dC, dI) vwCl [] t9 ∧ va_D (va_A [(r, .inr (4, [dv, .ref r_came, .ref r_doneOn, .ref r_left, .ref r_key, .ref r_heardOn, .ref r_standing, .ref r_pile, .ref r_size, .ref r_firstOf, .ref r_nextOf, .ref r_done, .int r_doneCount, .int r_today, .long r_lot])), (r_pile, .inl (kr_pile, 392, .inl fr_pile)), (r_size, .inl (kr_size, 8, .inl fr_size)), (r_left, .inl (kr_left, 49, .inl fr_left)), (r_doneOn, .inl (kr_doneOn, 49, .inl fr_doneOn)), (r_done, .inl (kr_done, 49, .inl fr_done))] sz) [(r, .inr (4, [dv, .ref r_came, .ref r_doneOn, .ref r_left, .ref r_key, .ref r_heardOn, .ref r_standing, .ref r_pile, .ref r_size, .ref r_firstOf, .ref r_nextOf, .ref r_done, .int r_doneCountz, .int r_today, .long r_lot])), (r_pile, .inl (kr_pile, 392, .inl fr_pilez)), (r_size, .inl (kr_size, 8, .inl fr_sizez)), (r_left, .inl (kr_left, 49, .inl fr_leftz)), (r_doneOn, .inl (kr_doneOn, 49, .inl fr_doneOnz)), (r_done, .inl (kr_done, 49, .inl fr_donez))]) (va_A [(r, .inr (4, [dv, .ref r_came, .ref r_doneOn, .ref r_left, .ref r_key, .ref r_heardOn, .ref r_standing, .ref r_pile, .ref r_size, .ref r_firstOf, .ref r_nextOf, .ref r_done, .int r_doneCount, .int r_today, .long r_lot])), (r_pile, .inl (kr_pile, 392, .inl fr_pile)), (r_size, .inl (kr_size, 8, .inl fr_size)), (r_left, .inl (kr_left, 49, .inl fr_left)), (r_doneOn, .inl (kr_doneOn, 49, .inl fr_doneOn)), (r_done, .inl (kr_done, 49, .inl fr_done))] sz)) 0 0 (va_A [(r, .inr (4, [dv, .ref r_came, .ref r_doneOn, .ref r_left, .ref r_key, .ref r_heardOn, .ref r_standing, .ref r_pile, .ref r_size, .ref r_firstOf, .ref r_nextOf, .ref r_done, .int r_doneCount, .int r_today, .long r_lot])), (r_pile, .inl (kr_pile, 392, .inl fr_pile)), (r_size, .inl (kr_size, 8, .inl fr_size)), (r_left, .inl (kr_left, 49, .inl fr_left)), (r_doneOn, .inl (kr_doneOn, 49, .inl fr_doneOn)), (r_done, .inl (kr_done, 49, .inl fr_done))] sz) := by
  refine Met.ofW (cc := cX4_takeAway) (maxL := 5) (ret := none) (by decide) rfl ?_
  intro pr_ en_ s me_ args below meth c s₁ B hml hv
  obtain ⟨rfl, hsz, hP, hK, hD0⟩ := hv
  have hx := B.exec
  have hb := B.bytes
  have hr := B.returns
  have hts0 := atoms_spec (ws := (.code yX4_takeAway cX4_takeAway 5 none :: ALLW)) B.pre
  have hts := fun (w : Cond) (h : w ∈ ALLW) => hts0 w (List.mem_cons_of_mem _ h)
  have hown : s.vm.findClass RX4 = some me_.cls := findClass_of_methodNamed B.named
  have hlocks := B.notSynchronized
  subst hsz
  have hD := hD0.self (sz := s.heap.size)
  generalize hAe : va_A [(r, .inr (4, [dv, .ref r_came, .ref r_doneOn, .ref r_left, .ref r_key, .ref r_heardOn, .ref r_standing, .ref r_pile, .ref r_size, .ref r_firstOf, .ref r_nextOf, .ref r_done, .int r_doneCount, .int r_today, .long r_lot])), (r_pile, .inl (kr_pile, 392, .inl fr_pile)), (r_size, .inl (kr_size, 8, .inl fr_size)), (r_left, .inl (kr_left, 49, .inl fr_left)), (r_doneOn, .inl (kr_doneOn, 49, .inl fr_doneOn)), (r_done, .inl (kr_done, 49, .inl fr_done))] s.heap.size = A at hD ⊢
  have hA : ∀ q : Nat, s.heap.size ≤ q → A q := fun q h => by rw [← hAe]; exact Or.inr h
  have hS : va_S A s.heap s.heap [] := va_S.rf
  have hP : va_P (dC, dI) vwCl [(r, .inr (4, [dv, .ref r_came, .ref r_doneOn, .ref r_left, .ref r_key, .ref r_heardOn, .ref r_standing, .ref r_pile, .ref r_size, .ref r_firstOf, .ref r_nextOf, .ref r_done, .int r_doneCount, .int r_today, .long r_lot])), (r_pile, .inl (kr_pile, 392, .inl fr_pile)), (r_size, .inl (kr_size, 8, .inl fr_size)), (r_left, .inl (kr_left, 49, .inl fr_left)), (r_doneOn, .inl (kr_doneOn, 49, .inl fr_doneOn)), (r_done, .inl (kr_done, 49, .inl fr_done))] s.heap := hP
  have hl := lv_entry ([.ref r, .int a, .int b]) (n := 5) (Nat.le_of_ble_eq_true rfl)
  rw [lg_entry_eq]
  generalize (lg_sl ([.ref r, .int a, .int b]) ++ List.replicate (5 - (lg_sl ([.ref r, .int a, .int b])).length) Slot.unset).toArray = ls at hl ⊢
  have hl : lv_has ls 5 [(0, .ref r), (1, .int a), (2, .int b)] := hl
  refine gQ (fun Q eQ => ?_)
  refine lv_iload_n hx hb dX4_takeAway_0 rfl (lv_at hl 1 rfl) ?_
  refine lv_bipush (v := 49) hx hb dX4_takeAway_1 (by decide) ?_
  refine lv_imul hx hb dX4_takeAway_3 ?_
  refine lv_topi (fun x_1 ex_1 => ?_)
  have b_x_1 := q_mul (a := a.toInt) (b := 49) ex_1 rfl (by decide) (by omega) (by omega)
  refine lv_iload_n hx hb dX4_takeAway_4 rfl (lv_at hl 2 rfl) ?_
  refine lv_iadd hx hb dX4_takeAway_5 ?_
  refine lv_topi (fun x_2 ex_2 => ?_)
  have b_x_2 := q_add (a := x_1.toInt) (b := b.toInt) ex_2 rfl rfl (by omega) (by omega)
  refine lv_istore_n (lv' := [(3, .int x_2), (0, .ref r), (1, .int a), (2, .int b)]) hx hb dX4_takeAway_6 rfl hl (by decide) rfl (fun ls hl => ?_)
  refine lv_aload_n hx hb dX4_takeAway_7 rfl (lv_at hl 1 rfl) ?_
  refine va_get (D := (dC, dI)) (ci := 4) (v := .ref r_pile) (C := RX4) (T := TX4) (N := 15) hx hb hts inA4 hown hK hP 0 rfl rfl 7 (by decide) (hts _ w_122) (fun _ h9 => h9) rfl dX4_takeAway_8 ?_
  refine lv_iload_n hx hb dX4_takeAway_11 rfl (lv_at hl 0 rfl) ?_
  refine va_iald hx hb hK hP 1 0 rfl rfl (vp_in_iff.mpr ⟨by omega, by omega⟩) dX4_takeAway_12 ?_
  refine lv_topi (fun x_3 ex_3 => ?_)
  have b_x_3 := bd.at g_fr_pile ex_3
  refine lv_istore (lv' := [(4, .int x_3), (3, .int x_2), (0, .ref r), (1, .int a), (2, .int b)]) hx hb dX4_takeAway_13 hl (by decide) rfl (fun ls hl => ?_)
  refine lv_aload_n hx hb dX4_takeAway_15 rfl (lv_at hl 2 rfl) ?_
  refine va_get (D := (dC, dI)) (ci := 4) (v := .ref r_size) (C := RX4) (T := TX4) (N := 15) hx hb hts inA4 hown hK hP 0 rfl rfl 8 (by decide) (hts _ w_123) (fun _ h9 => h9) rfl dX4_takeAway_16 ?_
  refine lv_iload_n hx hb dX4_takeAway_19 rfl (lv_at hl 3 rfl) ?_
  refine lv_dup2_11 hx hb dX4_takeAway_20 rfl rfl ?_
  refine va_iald hx hb hK hP 2 1 rfl rfl (vp_in_iff.mpr ⟨Int.le_trans (by decide) b_a.1, Int.lt_of_le_of_lt b_a.2 (by decide)⟩) dX4_takeAway_21 ?_
  refine lv_topi (fun x_4 ex_4 => ?_)
  rw [show x_4 = x0 from ex_4.trans ex0.symm]
  clear ex_4 x_4
  refine lv_iconst (v := 1) hx hb dX4_takeAway_22 (by decide) ?_
  refine lv_isub hx hb dX4_takeAway_23 ?_
  refine lv_topi (fun x_5 ex_5 => ?_)
  have b_x_5 := q_sub (a := x0.toInt) (b := 1) ex_5 rfl (by decide) (by omega) (by omega)
  refine va_iast hx hb hK hP hD hS 2 1 rfl rfl (vp_in_iff.mpr ⟨Int.le_trans (by decide) b_a.1, Int.lt_of_le_of_lt b_a.2 (by decide)⟩) dX4_takeAway_24 (fun H locs hP hD hS => ?_)
  have g_f_6 := bd_upd (k := (a : Int32).toNatClampNeg) (x := x_5) (a := x_5.toInt) g_fr_size rfl (by omega) (by omega)
  generalize ef_6 : upd fr_size (a : Int32).toNatClampNeg x_5 = f_6 at hP hD g_f_6
  have hP : va_P (dC, dI) vwCl [(r, .inr (4, [dv, .ref r_came, .ref r_doneOn, .ref r_left, .ref r_key, .ref r_heardOn, .ref r_standing, .ref r_pile, .ref r_size, .ref r_firstOf, .ref r_nextOf, .ref r_done, .int r_doneCount, .int r_today, .long r_lot])), (r_pile, .inl (kr_pile, 392, .inl fr_pile)), (r_size, .inl (kr_size, 8, .inl f_6)), (r_left, .inl (kr_left, 49, .inl fr_left)), (r_doneOn, .inl (kr_doneOn, 49, .inl fr_doneOn)), (r_done, .inl (kr_done, 49, .inl fr_done))] H := hP
  have hD : va_D A [(r, .inr (4, [dv, .ref r_came, .ref r_doneOn, .ref r_left, .ref r_key, .ref r_heardOn, .ref r_standing, .ref r_pile, .ref r_size, .ref r_firstOf, .ref r_nextOf, .ref r_done, .int r_doneCount, .int r_today, .long r_lot])), (r_pile, .inl (kr_pile, 392, .inl fr_pile)), (r_size, .inl (kr_size, 8, .inl f_6)), (r_left, .inl (kr_left, 49, .inl fr_left)), (r_doneOn, .inl (kr_doneOn, 49, .inl fr_doneOn)), (r_done, .inl (kr_done, 49, .inl fr_done))] := hD
  have ex_7 : x_5 = f_6 (a : Int32).toNatClampNeg := by rw [← ef_6]; exact pk_us.symm
  refine lv_aload_n hx hb dX4_takeAway_25 rfl (lv_at hl 2 rfl) ?_
  refine va_get (D := (dC, dI)) (ci := 4) (v := .ref r_pile) (C := RX4) (T := TX4) (N := 15) hx hb hts inA4 hown hK hP 0 rfl rfl 7 (by decide) (hts _ w_122) (fun _ h9 => h9) rfl dX4_takeAway_26 ?_
  refine lv_iload_n hx hb dX4_takeAway_29 rfl (lv_at hl 1 rfl) ?_
  refine lv_iconst (v := 1) hx hb dX4_takeAway_30 (by decide) ?_
  refine lv_iadd hx hb dX4_takeAway_31 ?_
  refine lv_topi (fun x_8 ex_8 => ?_)
  have b_x_8 := q_add (a := x_2.toInt) (b := 1) ex_8 rfl (by decide) (by omega) (by omega)
  refine lv_aload_n hx hb dX4_takeAway_32 rfl (lv_at hl 2 rfl) ?_
  refine va_get (D := (dC, dI)) (ci := 4) (v := .ref r_pile) (C := RX4) (T := TX4) (N := 15) hx hb hts inA4 hown hK hP 0 rfl rfl 7 (by decide) (hts _ w_122) (fun _ h9 => h9) rfl dX4_takeAway_33 ?_
  refine lv_iload_n hx hb dX4_takeAway_36 rfl (lv_at hl 1 rfl) ?_
  refine lv_aload_n hx hb dX4_takeAway_37 rfl (lv_at hl 2 rfl) ?_
  refine va_get (D := (dC, dI)) (ci := 4) (v := .ref r_size) (C := RX4) (T := TX4) (N := 15) hx hb hts inA4 hown hK hP 0 rfl rfl 8 (by decide) (hts _ w_123) (fun _ h9 => h9) rfl dX4_takeAway_38 ?_
  refine lv_iload_n hx hb dX4_takeAway_41 rfl (lv_at hl 3 rfl) ?_
  refine va_iald hx hb hK hP 2 1 rfl rfl (vp_in_iff.mpr ⟨Int.le_trans (by decide) b_a.1, Int.lt_of_le_of_lt b_a.2 (by decide)⟩) dX4_takeAway_42 ?_
  refine lv_topi (fun x_9 ex_9 => ?_)
  rw [show x_9 = x_5 from ex_9.trans ex_7.symm]
  clear ex_9 x_9
  refine lv_iload_n hx hb dX4_takeAway_43 rfl (lv_at hl 4 rfl) ?_
  refine lv_isub hx hb dX4_takeAway_44 ?_
  refine lv_topi (fun x_10 ex_10 => ?_)
  have b_x_10 := q_sub (a := x_5.toInt) (b := b.toInt) ex_10 rfl rfl (by omega) (by omega)
  refine va_copyi hx hb (hml.trans hl.1.symm) hown (hts _ w_636) (hts _ w_390) (hts _ w_391) (hts _ w_392) hK hP hD hS 1 1 0 0 rfl rfl rfl rfl rfl (q_nn (by omega)) (q_nn (by omega)) (q_nn (by omega)) (q_cp (a := x_8.toInt) (b := x_10.toInt) rfl rfl (by omega) (by omega) (by omega)) (q_cp (a := x_2.toInt) (b := x_10.toInt) rfl rfl (by omega) (by omega) (by omega)) (fun _ _ => rfl) (Nat.le_of_ble_eq_true rfl) (Nat.le_of_ble_eq_true rfl) dX4_takeAway_45 (fun H locs hP hD hS => ?_)
  have g_f_11 := bd_cpy (sp := (x_8 : Int32).toNatClampNeg) (dp := (x_2 : Int32).toNatClampNeg) (n := (x_10 : Int32).toNatClampNeg) g_fr_pile g_fr_pile
  generalize ef_11 : va_cpy fr_pile fr_pile (x_8 : Int32).toNatClampNeg (x_2 : Int32).toNatClampNeg (x_10 : Int32).toNatClampNeg = f_11 at hP hD g_f_11
  have hP : va_P (dC, dI) vwCl [(r, .inr (4, [dv, .ref r_came, .ref r_doneOn, .ref r_left, .ref r_key, .ref r_heardOn, .ref r_standing, .ref r_pile, .ref r_size, .ref r_firstOf, .ref r_nextOf, .ref r_done, .int r_doneCount, .int r_today, .long r_lot])), (r_pile, .inl (kr_pile, 392, .inl f_11)), (r_size, .inl (kr_size, 8, .inl f_6)), (r_left, .inl (kr_left, 49, .inl fr_left)), (r_doneOn, .inl (kr_doneOn, 49, .inl fr_doneOn)), (r_done, .inl (kr_done, 49, .inl fr_done))] H := hP
  have hD : va_D A [(r, .inr (4, [dv, .ref r_came, .ref r_doneOn, .ref r_left, .ref r_key, .ref r_heardOn, .ref r_standing, .ref r_pile, .ref r_size, .ref r_firstOf, .ref r_nextOf, .ref r_done, .int r_doneCount, .int r_today, .long r_lot])), (r_pile, .inl (kr_pile, 392, .inl f_11)), (r_size, .inl (kr_size, 8, .inl f_6)), (r_left, .inl (kr_left, 49, .inl fr_left)), (r_doneOn, .inl (kr_doneOn, 49, .inl fr_doneOn)), (r_done, .inl (kr_done, 49, .inl fr_done))] := hD
  refine lv_aload_n hx hb dX4_takeAway_48 rfl (lv_at hl 2 rfl) ?_
  refine va_get (D := (dC, dI)) (ci := 4) (v := .ref r_left) (C := RX4) (T := TX4) (N := 15) hx hb hts inA4 hown hK hP 0 rfl rfl 3 (by decide) (hts _ w_118) (fun _ h9 => h9) rfl dX4_takeAway_49 ?_
  refine lv_iload hx hb dX4_takeAway_52 (lv_at hl 0 rfl) ?_
  refine lv_iconst (v := 0) hx hb dX4_takeAway_54 (by decide) ?_
  refine va_iast hx hb hK hP hD hS 3 2 rfl rfl (vp_in_iff.mpr ⟨Int.le_trans (by decide) b_x_3.1, Int.lt_of_le_of_lt b_x_3.2 (by decide)⟩) dX4_takeAway_55 (fun H locs hP hD hS => ?_)
  generalize ef_12 : upd fr_left (x_3 : Int32).toNatClampNeg 0 = f_12 at hP hD
  have hP : va_P (dC, dI) vwCl [(r, .inr (4, [dv, .ref r_came, .ref r_doneOn, .ref r_left, .ref r_key, .ref r_heardOn, .ref r_standing, .ref r_pile, .ref r_size, .ref r_firstOf, .ref r_nextOf, .ref r_done, .int r_doneCount, .int r_today, .long r_lot])), (r_pile, .inl (kr_pile, 392, .inl f_11)), (r_size, .inl (kr_size, 8, .inl f_6)), (r_left, .inl (kr_left, 49, .inl f_12)), (r_doneOn, .inl (kr_doneOn, 49, .inl fr_doneOn)), (r_done, .inl (kr_done, 49, .inl fr_done))] H := hP
  have hD : va_D A [(r, .inr (4, [dv, .ref r_came, .ref r_doneOn, .ref r_left, .ref r_key, .ref r_heardOn, .ref r_standing, .ref r_pile, .ref r_size, .ref r_firstOf, .ref r_nextOf, .ref r_done, .int r_doneCount, .int r_today, .long r_lot])), (r_pile, .inl (kr_pile, 392, .inl f_11)), (r_size, .inl (kr_size, 8, .inl f_6)), (r_left, .inl (kr_left, 49, .inl f_12)), (r_doneOn, .inl (kr_doneOn, 49, .inl fr_doneOn)), (r_done, .inl (kr_done, 49, .inl fr_done))] := hD
  have ex_13 : 0 = f_12 (x_3 : Int32).toNatClampNeg := by rw [← ef_12]; exact pk_us.symm
  refine lv_aload_n hx hb dX4_takeAway_56 rfl (lv_at hl 2 rfl) ?_
  refine va_get (D := (dC, dI)) (ci := 4) (v := .ref r_doneOn) (C := RX4) (T := TX4) (N := 15) hx hb hts inA4 hown hK hP 0 rfl rfl 2 (by decide) (hts _ w_117) (fun _ h9 => h9) rfl dX4_takeAway_57 ?_
  refine lv_iload hx hb dX4_takeAway_60 (lv_at hl 0 rfl) ?_
  refine lv_aload_n hx hb dX4_takeAway_62 rfl (lv_at hl 2 rfl) ?_
  refine va_get (D := (dC, dI)) (ci := 4) (v := .int r_today) (C := RX4) (T := TX4) (N := 15) hx hb hts inA4 hown hK hP 0 rfl rfl 13 (by decide) (hts _ w_128) (fun _ h9 => h9) rfl dX4_takeAway_63 ?_
  refine va_iast hx hb hK hP hD hS 4 3 rfl rfl (vp_in_iff.mpr ⟨Int.le_trans (by decide) b_x_3.1, Int.lt_of_le_of_lt b_x_3.2 (by decide)⟩) dX4_takeAway_66 (fun H locs hP hD hS => ?_)
  generalize ef_14 : upd fr_doneOn (x_3 : Int32).toNatClampNeg r_today = f_14 at hP hD
  have hP : va_P (dC, dI) vwCl [(r, .inr (4, [dv, .ref r_came, .ref r_doneOn, .ref r_left, .ref r_key, .ref r_heardOn, .ref r_standing, .ref r_pile, .ref r_size, .ref r_firstOf, .ref r_nextOf, .ref r_done, .int r_doneCount, .int r_today, .long r_lot])), (r_pile, .inl (kr_pile, 392, .inl f_11)), (r_size, .inl (kr_size, 8, .inl f_6)), (r_left, .inl (kr_left, 49, .inl f_12)), (r_doneOn, .inl (kr_doneOn, 49, .inl f_14)), (r_done, .inl (kr_done, 49, .inl fr_done))] H := hP
  have hD : va_D A [(r, .inr (4, [dv, .ref r_came, .ref r_doneOn, .ref r_left, .ref r_key, .ref r_heardOn, .ref r_standing, .ref r_pile, .ref r_size, .ref r_firstOf, .ref r_nextOf, .ref r_done, .int r_doneCount, .int r_today, .long r_lot])), (r_pile, .inl (kr_pile, 392, .inl f_11)), (r_size, .inl (kr_size, 8, .inl f_6)), (r_left, .inl (kr_left, 49, .inl f_12)), (r_doneOn, .inl (kr_doneOn, 49, .inl f_14)), (r_done, .inl (kr_done, 49, .inl fr_done))] := hD
  have ex_15 : r_today = f_14 (x_3 : Int32).toNatClampNeg := by rw [← ef_14]; exact pk_us.symm
  refine lv_aload_n hx hb dX4_takeAway_67 rfl (lv_at hl 2 rfl) ?_
  refine va_get (D := (dC, dI)) (ci := 4) (v := .int r_doneCount) (C := RX4) (T := TX4) (N := 15) hx hb hts inA4 hown hK hP 0 rfl rfl 12 (by decide) (hts _ w_127) (fun _ h9 => h9) rfl dX4_takeAway_68 ?_
  refine lv_bipush (v := 49) hx hb dX4_takeAway_71 (by decide) ?_
  refine lv_icmp_ge (tgt := 97) hx hb dX4_takeAway_73 (by decide) (fun c_16 => ?_) (fun c_16 => ?_)
  · have ec_16 := q_ge (a := r_doneCount.toInt) (b := 49) rfl (by decide) c_16
    have hP9 := hP.sub (ws' := [(r, .inr (4, [dv, .ref r_came, .ref r_doneOn, .ref r_left, .ref r_key, .ref r_heardOn, .ref r_standing, .ref r_pile, .ref r_size, .ref r_firstOf, .ref r_nextOf, .ref r_done, .int r_doneCount, .int r_today, .long r_lot])), (r_pile, .inl (kr_pile, 392, .inl f_11)), (r_size, .inl (kr_size, 8, .inl f_6)), (r_left, .inl (kr_left, 49, .inl f_12)), (r_doneOn, .inl (kr_doneOn, 49, .inl f_14)), (r_done, .inl (kr_done, 49, .inl fr_done))]) [0, 1, 2, 3, 4, 5] rfl
    have hD9 := hD.sub (ws' := [(r, .inr (4, [dv, .ref r_came, .ref r_doneOn, .ref r_left, .ref r_key, .ref r_heardOn, .ref r_standing, .ref r_pile, .ref r_size, .ref r_firstOf, .ref r_nextOf, .ref r_done, .int r_doneCount, .int r_today, .long r_lot])), (r_pile, .inl (kr_pile, 392, .inl f_11)), (r_size, .inl (kr_size, 8, .inl f_6)), (r_left, .inl (kr_left, 49, .inl f_12)), (r_doneOn, .inl (kr_doneOn, 49, .inl f_14)), (r_done, .inl (kr_done, 49, .inl fr_done))]) [0, 1, 2, 3, 4, 5] (by decide) rfl
    have hK9 := hK.sub (tys' := []) [] rfl
    refine gQe eQ ?_
    exact W.vret hx hb hr (fun t9 ht hW => ⟨⟨(), rfl, trivial, r_doneCount, f_11, f_6, f_12, f_14, fr_done, b_r_doneCount, g_f_11, g_f_6, by rw [ht]; exact hP9, va_K.moved hW.alike hK9, hD9⟩, hS.F ht⟩) hS.2.2 dX4_takeAway_97
  · have ec_16 := q_nge (a := r_doneCount.toInt) (b := 49) rfl (by decide) c_16
    refine lv_aload_n hx hb dX4_takeAway_76 rfl (lv_at hl 2 rfl) ?_
    refine va_get (D := (dC, dI)) (ci := 4) (v := .ref r_done) (C := RX4) (T := TX4) (N := 15) hx hb hts inA4 hown hK hP 0 rfl rfl 11 (by decide) (hts _ w_126) (fun _ h9 => h9) rfl dX4_takeAway_77 ?_
    refine lv_aload_n hx hb dX4_takeAway_80 rfl (lv_at hl 2 rfl) ?_
    refine va_get (D := (dC, dI)) (ci := 4) (v := .int r_doneCount) (C := RX4) (T := TX4) (N := 15) hx hb hts inA4 hown hK hP 0 rfl rfl 12 (by decide) (hts _ w_127) (fun _ h9 => h9) rfl dX4_takeAway_81 ?_
    refine lv_iload hx hb dX4_takeAway_84 (lv_at hl 0 rfl) ?_
    refine va_iast hx hb hK hP hD hS 5 4 rfl rfl (vp_in_iff.mpr ⟨by omega, by omega⟩) dX4_takeAway_86 (fun H locs hP hD hS => ?_)
    generalize ef_17 : upd fr_done (r_doneCount : Int32).toNatClampNeg x_3 = f_17 at hP hD
    have hP : va_P (dC, dI) vwCl [(r, .inr (4, [dv, .ref r_came, .ref r_doneOn, .ref r_left, .ref r_key, .ref r_heardOn, .ref r_standing, .ref r_pile, .ref r_size, .ref r_firstOf, .ref r_nextOf, .ref r_done, .int r_doneCount, .int r_today, .long r_lot])), (r_pile, .inl (kr_pile, 392, .inl f_11)), (r_size, .inl (kr_size, 8, .inl f_6)), (r_left, .inl (kr_left, 49, .inl f_12)), (r_doneOn, .inl (kr_doneOn, 49, .inl f_14)), (r_done, .inl (kr_done, 49, .inl f_17))] H := hP
    have hD : va_D A [(r, .inr (4, [dv, .ref r_came, .ref r_doneOn, .ref r_left, .ref r_key, .ref r_heardOn, .ref r_standing, .ref r_pile, .ref r_size, .ref r_firstOf, .ref r_nextOf, .ref r_done, .int r_doneCount, .int r_today, .long r_lot])), (r_pile, .inl (kr_pile, 392, .inl f_11)), (r_size, .inl (kr_size, 8, .inl f_6)), (r_left, .inl (kr_left, 49, .inl f_12)), (r_doneOn, .inl (kr_doneOn, 49, .inl f_14)), (r_done, .inl (kr_done, 49, .inl f_17))] := hD
    have ex_18 : x_3 = f_17 (r_doneCount : Int32).toNatClampNeg := by rw [← ef_17]; exact pk_us.symm
    refine lv_aload_n hx hb dX4_takeAway_87 rfl (lv_at hl 2 rfl) ?_
    refine lv_dup hx hb dX4_takeAway_88 rfl ?_
    refine va_get (D := (dC, dI)) (ci := 4) (v := .int r_doneCount) (C := RX4) (T := TX4) (N := 15) hx hb hts inA4 hown hK hP 0 rfl rfl 12 (by decide) (hts _ w_127) (fun _ h9 => h9) rfl dX4_takeAway_89 ?_
    refine lv_iconst (v := 1) hx hb dX4_takeAway_92 (by decide) ?_
    refine lv_iadd hx hb dX4_takeAway_93 ?_
    refine lv_topi (fun x_19 ex_19 => ?_)
    have b_x_19 := q_add (a := r_doneCount.toInt) (b := 1) ex_19 rfl (by decide) (by omega) (by omega)
    refine va_put (D := (dC, dI)) (ci := 4) (v := .int x_19) (ty := tyX4 12) (C := RX4) (T := TX4) (N := 15) hx hb hts inA4 tyX4 tyX4_ok nmX4 hown hK hP hD hS 0 rfl rfl 12 (by decide) (hts _ w_127) (fun _ h9 => h9) rfl (tyX4_ok 12 (by decide)) rfl rfl (Nat.le_of_ble_eq_true rfl) dX4_takeAway_94 (fun H locs hP hD hS => ?_)
    have hP : va_P (dC, dI) vwCl [(r, .inr (4, [dv, .ref r_came, .ref r_doneOn, .ref r_left, .ref r_key, .ref r_heardOn, .ref r_standing, .ref r_pile, .ref r_size, .ref r_firstOf, .ref r_nextOf, .ref r_done, .int x_19, .int r_today, .long r_lot])), (r_pile, .inl (kr_pile, 392, .inl f_11)), (r_size, .inl (kr_size, 8, .inl f_6)), (r_left, .inl (kr_left, 49, .inl f_12)), (r_doneOn, .inl (kr_doneOn, 49, .inl f_14)), (r_done, .inl (kr_done, 49, .inl f_17))] H := hP
    have hD : va_D A [(r, .inr (4, [dv, .ref r_came, .ref r_doneOn, .ref r_left, .ref r_key, .ref r_heardOn, .ref r_standing, .ref r_pile, .ref r_size, .ref r_firstOf, .ref r_nextOf, .ref r_done, .int x_19, .int r_today, .long r_lot])), (r_pile, .inl (kr_pile, 392, .inl f_11)), (r_size, .inl (kr_size, 8, .inl f_6)), (r_left, .inl (kr_left, 49, .inl f_12)), (r_doneOn, .inl (kr_doneOn, 49, .inl f_14)), (r_done, .inl (kr_done, 49, .inl f_17))] := hD
    have bq_20 : (0) ≤ x_19.toInt ∧ x_19.toInt ≤ 49 := ⟨by omega, by omega⟩
    have hP9 := hP.sub (ws' := [(r, .inr (4, [dv, .ref r_came, .ref r_doneOn, .ref r_left, .ref r_key, .ref r_heardOn, .ref r_standing, .ref r_pile, .ref r_size, .ref r_firstOf, .ref r_nextOf, .ref r_done, .int x_19, .int r_today, .long r_lot])), (r_pile, .inl (kr_pile, 392, .inl f_11)), (r_size, .inl (kr_size, 8, .inl f_6)), (r_left, .inl (kr_left, 49, .inl f_12)), (r_doneOn, .inl (kr_doneOn, 49, .inl f_14)), (r_done, .inl (kr_done, 49, .inl f_17))]) [0, 1, 2, 3, 4, 5] rfl
    have hD9 := hD.sub (ws' := [(r, .inr (4, [dv, .ref r_came, .ref r_doneOn, .ref r_left, .ref r_key, .ref r_heardOn, .ref r_standing, .ref r_pile, .ref r_size, .ref r_firstOf, .ref r_nextOf, .ref r_done, .int x_19, .int r_today, .long r_lot])), (r_pile, .inl (kr_pile, 392, .inl f_11)), (r_size, .inl (kr_size, 8, .inl f_6)), (r_left, .inl (kr_left, 49, .inl f_12)), (r_doneOn, .inl (kr_doneOn, 49, .inl f_14)), (r_done, .inl (kr_done, 49, .inl f_17))]) [0, 1, 2, 3, 4, 5] (by decide) rfl
    have hK9 := hK.sub (tys' := []) [] rfl
    refine gQe eQ ?_
    exact W.vret hx hb hr (fun t9 ht hW => ⟨⟨(), rfl, trivial, x_19, f_11, f_6, f_12, f_14, f_17, bq_20, g_f_11, g_f_6, by rw [ht]; exact hP9, va_K.moved hW.alike hK9, hD9⟩, hS.F ht⟩) hS.2.2 dX4_takeAway_97
