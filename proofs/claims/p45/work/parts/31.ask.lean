set_option maxHeartbeats 4000000 in
set_option maxRecDepth 100000 in
theorem r_doneBy (l : Launch) (dC : Nat → ClassId) (dI : Nat → Nat → Nat) (sz : Nat) (r : Nat) (a : Int32) (b : Int32) (dv : Value) (r_came : Nat) (r_doneOn : Nat) (r_left : Nat) (r_key : Nat) (r_heardOn : Nat) (r_standing : Nat) (r_pile : Nat) (r_size : Nat) (r_firstOf : Nat) (r_nextOf : Nat) (r_done : Nat) (r_doneCount : Int32) (r_today : Int32) (r_lot : Int64) (kr_doneOn : ClassId) (fr_doneOn : Nat → Int32) (b_a : (0) ≤ a.toInt ∧ a.toInt ≤ 48) (b_r_doneCount : (0) ≤ r_doneCount.toInt ∧ r_doneCount.toInt ≤ 49) (b_r_today : (0) ≤ r_today.toInt ∧ r_today.toInt ≤ 39) : Met l yX4_doneBy (.code yX4_doneBy cX4_doneBy 3 (some .boolean) :: ALLW) ({ frames := 0, cells := 0, slots := 0, locals := 0 }) (va_Pc [.ref r, .int a, .int b] (fun U => U.heap.size = sz ∧ va_P (dC, dI) vwCl [(r, .inr (4, [dv, .ref r_came, .ref r_doneOn, .ref r_left, .ref r_key, .ref r_heardOn, .ref r_standing, .ref r_pile, .ref r_size, .ref r_firstOf, .ref r_nextOf, .ref r_done, .int r_doneCount, .int r_today, .long r_lot])), (r_doneOn, .inl (kr_doneOn, 49, .inl fr_doneOn))] U.heap ∧ va_K (dC, dI) vwCl [(kr_doneOn, .int)] U ∧ va_D (fun _ => True) [(r, .inr (4, [dv, .ref r_came, .ref r_doneOn, .ref r_left, .ref r_key, .ref r_heardOn, .ref r_standing, .ref r_pile, .ref r_size, .ref r_firstOf, .ref r_nextOf, .ref r_done, .int r_doneCount, .int r_today, .long r_lot])), (r_doneOn, .inl (kr_doneOn, 49, .inl fr_doneOn))])) (va_Qi (fun (r u : Int32) => r = u) (fun (u : Int32) (t9 : State) => ((0) ≤ u.toInt ∧ u.toInt ≤ 1) ∧ va_P (dC, dI) vwCl [(r, .inr (4, [dv, .ref r_came, .ref r_doneOn, .ref r_left, .ref r_key, .ref r_heardOn, .ref r_standing, .ref r_pile, .ref r_size, .ref r_firstOf, .ref r_nextOf, .ref r_done, .int r_doneCount, .int r_today, .long r_lot])), (r_doneOn, .inl (kr_doneOn, 49, .inl fr_doneOn))] t9.heap ∧ va_K (dC, dI) vwCl [] t9 ∧ va_D (va_A [(r, .inr (4, [dv, .ref r_came, .ref r_doneOn, .ref r_left, .ref r_key, .ref r_heardOn, .ref r_standing, .ref r_pile, .ref r_size, .ref r_firstOf, .ref r_nextOf, .ref r_done, .int r_doneCount, .int r_today, .long r_lot])), (r_doneOn, .inl (kr_doneOn, 49, .inl fr_doneOn))] sz) [(r, .inr (4, [dv, .ref r_came, .ref r_doneOn, .ref r_left, .ref r_key, .ref r_heardOn, .ref r_standing, .ref r_pile, .ref r_size, .ref r_firstOf, .ref r_nextOf, .ref r_done, .int r_doneCount, .int r_today, .long r_lot])), (r_doneOn, .inl (kr_doneOn, 49, .inl fr_doneOn))]) (va_A [(r, .inr (4, [dv, .ref r_came, .ref r_doneOn, .ref r_left, .ref r_key, .ref r_heardOn, .ref r_standing, .ref r_pile, .ref r_size, .ref r_firstOf, .ref r_nextOf, .ref r_done, .int r_doneCount, .int r_today, .long r_lot])), (r_doneOn, .inl (kr_doneOn, 49, .inl fr_doneOn))] sz)) 0 0 (va_A [(r, .inr (4, [dv, .ref r_came, .ref r_doneOn, .ref r_left, .ref r_key, .ref r_heardOn, .ref r_standing, .ref r_pile, .ref r_size, .ref r_firstOf, .ref r_nextOf, .ref r_done, .int r_doneCount, .int r_today, .long r_lot])), (r_doneOn, .inl (kr_doneOn, 49, .inl fr_doneOn))] sz) := by
  refine Met.ofW (cc := cX4_doneBy) (maxL := 3) (ret := (some .boolean)) (by decide) rfl ?_
  intro pr_ en_ s me_ args below meth c s₁ B hml hv
  obtain ⟨rfl, hsz, hP, hK, hD0⟩ := hv
  have hx := B.exec
  have hb := B.bytes
  have hr := B.returns
  have hts0 := atoms_spec (ws := (.code yX4_doneBy cX4_doneBy 3 (some .boolean) :: ALLW)) B.pre
  have hts := fun (w : Cond) (h : w ∈ ALLW) => hts0 w (List.mem_cons_of_mem _ h)
  have hown : s.vm.findClass RX4 = some me_.cls := findClass_of_methodNamed B.named
  have hlocks := B.notSynchronized
  subst hsz
  have hD := hD0.self (sz := s.heap.size)
  generalize hAe : va_A [(r, .inr (4, [dv, .ref r_came, .ref r_doneOn, .ref r_left, .ref r_key, .ref r_heardOn, .ref r_standing, .ref r_pile, .ref r_size, .ref r_firstOf, .ref r_nextOf, .ref r_done, .int r_doneCount, .int r_today, .long r_lot])), (r_doneOn, .inl (kr_doneOn, 49, .inl fr_doneOn))] s.heap.size = A at hD ⊢
  have hA : ∀ q : Nat, s.heap.size ≤ q → A q := fun q h => by rw [← hAe]; exact Or.inr h
  have hS : va_S A s.heap s.heap [] := va_S.rf
  have hP : va_P (dC, dI) vwCl [(r, .inr (4, [dv, .ref r_came, .ref r_doneOn, .ref r_left, .ref r_key, .ref r_heardOn, .ref r_standing, .ref r_pile, .ref r_size, .ref r_firstOf, .ref r_nextOf, .ref r_done, .int r_doneCount, .int r_today, .long r_lot])), (r_doneOn, .inl (kr_doneOn, 49, .inl fr_doneOn))] s.heap := hP
  have hl := lv_entry ([.ref r, .int a, .int b]) (n := 3) (Nat.le_of_ble_eq_true rfl)
  rw [lg_entry_eq]
  generalize (lg_sl ([.ref r, .int a, .int b]) ++ List.replicate (3 - (lg_sl ([.ref r, .int a, .int b])).length) Slot.unset).toArray = ls at hl ⊢
  have hl : lv_has ls 3 [(0, .ref r), (1, .int a), (2, .int b)] := hl
  refine gQ (fun Q eQ => ?_)
  refine lv_aload_n hx hb dX4_doneBy_0 rfl (lv_at hl 0 rfl) ?_
  refine va_get (D := (dC, dI)) (ci := 4) (v := .ref r_doneOn) (C := RX4) (T := TX4) (N := 15) hx hb hts inA4 hown hK hP 0 rfl rfl 2 (by decide) (hts _ w_117) (fun _ h9 => h9) rfl dX4_doneBy_1 ?_
  refine lv_iload_n hx hb dX4_doneBy_4 rfl (lv_at hl 1 rfl) ?_
  refine va_iald hx hb hK hP 1 0 rfl rfl (vp_in_iff.mpr ⟨Int.le_trans (by decide) b_a.1, Int.lt_of_le_of_lt b_a.2 (by decide)⟩) dX4_doneBy_5 ?_
  refine lv_topi (fun x_1 ex_1 => ?_)
  refine lv_iconst (v := (-1)) hx hb dX4_doneBy_6 (by decide) ?_
  have rg_3 := q_rng x_1
  refine lv_icmp_eq (tgt := 24) hx hb dX4_doneBy_7 (by decide) (fun c_2 => ?_) (fun c_2 => ?_)
  · have ec_2 := q_eq (a := x_1.toInt) (b := -1) rfl (by decide) c_2
    refine lv_iconst (v := 0) hx hb dX4_doneBy_24 (by decide) ?_
    have z_4 : (0 : Int32).toInt = 0 := by decide
    have hP9 := hP.sub (ws' := [(r, .inr (4, [dv, .ref r_came, .ref r_doneOn, .ref r_left, .ref r_key, .ref r_heardOn, .ref r_standing, .ref r_pile, .ref r_size, .ref r_firstOf, .ref r_nextOf, .ref r_done, .int r_doneCount, .int r_today, .long r_lot])), (r_doneOn, .inl (kr_doneOn, 49, .inl fr_doneOn))]) [0, 1] rfl
    have hD9 := hD.sub (ws' := [(r, .inr (4, [dv, .ref r_came, .ref r_doneOn, .ref r_left, .ref r_key, .ref r_heardOn, .ref r_standing, .ref r_pile, .ref r_size, .ref r_firstOf, .ref r_nextOf, .ref r_done, .int r_doneCount, .int r_today, .long r_lot])), (r_doneOn, .inl (kr_doneOn, 49, .inl fr_doneOn))]) [0, 1] (by decide) rfl
    have hK9 := hK.sub (tys' := []) [] rfl
    refine gQe eQ ?_
    exact W.zret (v := 0) hx hb hr (by decide) (fun t9 ht hW => ⟨⟨0, 0, rfl, rfl, ⟨by decide, by decide⟩, by rw [ht]; exact hP9, va_K.moved hW.alike hK9, hD9⟩, hS.F ht⟩) hS.2.2 dX4_doneBy_25
  · have ec_2 := q_neq (a := x_1.toInt) (b := -1) rfl (by decide) c_2
    refine lv_aload_n hx hb dX4_doneBy_10 rfl (lv_at hl 0 rfl) ?_
    refine va_get (D := (dC, dI)) (ci := 4) (v := .ref r_doneOn) (C := RX4) (T := TX4) (N := 15) hx hb hts inA4 hown hK hP 0 rfl rfl 2 (by decide) (hts _ w_117) (fun _ h9 => h9) rfl dX4_doneBy_11 ?_
    refine lv_iload_n hx hb dX4_doneBy_14 rfl (lv_at hl 1 rfl) ?_
    refine va_iald hx hb hK hP 1 0 rfl rfl (vp_in_iff.mpr ⟨Int.le_trans (by decide) b_a.1, Int.lt_of_le_of_lt b_a.2 (by decide)⟩) dX4_doneBy_15 ?_
    refine lv_topi (fun x_5 ex_5 => ?_)
    rw [show x_5 = x_1 from ex_5.trans ex_1.symm]
    clear ex_5 x_5
    refine lv_iload_n hx hb dX4_doneBy_16 rfl (lv_at hl 2 rfl) ?_
    have rg_7 := q_rng x_1
    have rg_8 := q_rng b
    refine lv_icmp_gt (tgt := 24) hx hb dX4_doneBy_17 (by decide) (fun c_6 => ?_) (fun c_6 => ?_)
    · have ec_6 := q_gt (a := x_1.toInt) (b := b.toInt) rfl rfl c_6
      refine lv_iconst (v := 0) hx hb dX4_doneBy_24 (by decide) ?_
      have z_9 : (0 : Int32).toInt = 0 := by decide
      have hP9 := hP.sub (ws' := [(r, .inr (4, [dv, .ref r_came, .ref r_doneOn, .ref r_left, .ref r_key, .ref r_heardOn, .ref r_standing, .ref r_pile, .ref r_size, .ref r_firstOf, .ref r_nextOf, .ref r_done, .int r_doneCount, .int r_today, .long r_lot])), (r_doneOn, .inl (kr_doneOn, 49, .inl fr_doneOn))]) [0, 1] rfl
      have hD9 := hD.sub (ws' := [(r, .inr (4, [dv, .ref r_came, .ref r_doneOn, .ref r_left, .ref r_key, .ref r_heardOn, .ref r_standing, .ref r_pile, .ref r_size, .ref r_firstOf, .ref r_nextOf, .ref r_done, .int r_doneCount, .int r_today, .long r_lot])), (r_doneOn, .inl (kr_doneOn, 49, .inl fr_doneOn))]) [0, 1] (by decide) rfl
      have hK9 := hK.sub (tys' := []) [] rfl
      refine gQe eQ ?_
      exact W.zret (v := 0) hx hb hr (by decide) (fun t9 ht hW => ⟨⟨0, 0, rfl, rfl, ⟨by decide, by decide⟩, by rw [ht]; exact hP9, va_K.moved hW.alike hK9, hD9⟩, hS.F ht⟩) hS.2.2 dX4_doneBy_25
    · have ec_6 := q_ngt (a := x_1.toInt) (b := b.toInt) rfl rfl c_6
      refine lv_iconst (v := 1) hx hb dX4_doneBy_20 (by decide) ?_
      refine lv_goto (tgt := 25) hx hb dX4_doneBy_21 (by decide) ?_
      have z_10 : (1 : Int32).toInt = 1 := by decide
      have hP9 := hP.sub (ws' := [(r, .inr (4, [dv, .ref r_came, .ref r_doneOn, .ref r_left, .ref r_key, .ref r_heardOn, .ref r_standing, .ref r_pile, .ref r_size, .ref r_firstOf, .ref r_nextOf, .ref r_done, .int r_doneCount, .int r_today, .long r_lot])), (r_doneOn, .inl (kr_doneOn, 49, .inl fr_doneOn))]) [0, 1] rfl
      have hD9 := hD.sub (ws' := [(r, .inr (4, [dv, .ref r_came, .ref r_doneOn, .ref r_left, .ref r_key, .ref r_heardOn, .ref r_standing, .ref r_pile, .ref r_size, .ref r_firstOf, .ref r_nextOf, .ref r_done, .int r_doneCount, .int r_today, .long r_lot])), (r_doneOn, .inl (kr_doneOn, 49, .inl fr_doneOn))]) [0, 1] (by decide) rfl
      have hK9 := hK.sub (tys' := []) [] rfl
      refine gQe eQ ?_
      exact W.zret (v := 1) hx hb hr (by decide) (fun t9 ht hW => ⟨⟨1, 1, rfl, rfl, ⟨by decide, by decide⟩, by rw [ht]; exact hP9, va_K.moved hW.alike hK9, hD9⟩, hS.F ht⟩) hS.2.2 dX4_doneBy_25
set_option maxHeartbeats 4000000 in
set_option maxRecDepth 100000 in
theorem r_inTime (l : Launch) (dC : Nat → ClassId) (dI : Nat → Nat → Nat) (sz : Nat) (r : Nat) (t : Nat) (a : Int32) (dv : Value) (r_came : Nat) (r_doneOn : Nat) (r_left : Nat) (r_key : Nat) (r_heardOn : Nat) (r_standing : Nat) (r_pile : Nat) (r_size : Nat) (r_firstOf : Nat) (r_nextOf : Nat) (r_done : Nat) (r_doneCount : Int32) (r_today : Int32) (r_lot : Int64) (t_days : Int32) (t_post : Int32) (t_law : Int32) (t_seed : Int32) (t_lines : Int32) (t_people : Int32) (t_letters : Int32) (t_lawTold : Int32) (t_hours : Nat) (t_kind : Nat) (t_master : Nat) (t_from : Nat) (t_to : Nat) (t_on : Nat) (t_told : Nat) (t_after : Nat) (t_worth : Nat) (t_by : Nat) (kt_by : ClassId) (ft_by : Nat → Int32) (kr_doneOn : ClassId) (fr_doneOn : Nat → Int32) (b_a : (0) ≤ a.toInt ∧ a.toInt ≤ 48) (b_r_doneCount : (0) ≤ r_doneCount.toInt ∧ r_doneCount.toInt ≤ 49) (b_r_today : (0) ≤ r_today.toInt ∧ r_today.toInt ≤ 39) (b_t_days : (0) ≤ t_days.toInt ∧ t_days.toInt ≤ 40) (b_t_post : (0) ≤ t_post.toInt ∧ t_post.toInt ≤ 9) (b_t_law : (0) ≤ t_law.toInt ∧ t_law.toInt ≤ 3) (b_t_people : (0) ≤ t_people.toInt ∧ t_people.toInt ≤ 8) (b_t_letters : (0) ≤ t_letters.toInt ∧ t_letters.toInt ≤ 24) (b_t_lawTold : (0) ≤ t_lawTold.toInt ∧ t_lawTold.toInt ≤ 1) : Met l yX4_inTime (.code yX4_inTime cX4_inTime 3 (some .boolean) :: ALLW) ({ frames := 1, cells := 0, slots := 0, locals := 22 }) (va_Pc [.ref r, .ref t, .int a] (fun U => U.heap.size = sz ∧ va_P (dC, dI) vwCl [(r, .inr (4, [dv, .ref r_came, .ref r_doneOn, .ref r_left, .ref r_key, .ref r_heardOn, .ref r_standing, .ref r_pile, .ref r_size, .ref r_firstOf, .ref r_nextOf, .ref r_done, .int r_doneCount, .int r_today, .long r_lot])), (t, .inr (7, [.int t_days, .int t_post, .int t_law, .int t_seed, .int t_lines, .int t_people, .int t_letters, .int t_lawTold, .ref t_hours, .ref t_kind, .ref t_master, .ref t_from, .ref t_to, .ref t_on, .ref t_told, .ref t_after, .ref t_worth, .ref t_by])), (t_by, .inl (kt_by, 49, .inl ft_by)), (r_doneOn, .inl (kr_doneOn, 49, .inl fr_doneOn))] U.heap ∧ va_K (dC, dI) vwCl [(kt_by, .int), (kr_doneOn, .int)] U ∧ va_D (fun _ => True) [(r, .inr (4, [dv, .ref r_came, .ref r_doneOn, .ref r_left, .ref r_key, .ref r_heardOn, .ref r_standing, .ref r_pile, .ref r_size, .ref r_firstOf, .ref r_nextOf, .ref r_done, .int r_doneCount, .int r_today, .long r_lot])), (t, .inr (7, [.int t_days, .int t_post, .int t_law, .int t_seed, .int t_lines, .int t_people, .int t_letters, .int t_lawTold, .ref t_hours, .ref t_kind, .ref t_master, .ref t_from, .ref t_to, .ref t_on, .ref t_told, .ref t_after, .ref t_worth, .ref t_by])), (t_by, .inl (kt_by, 49, .inl ft_by)), (r_doneOn, .inl (kr_doneOn, 49, .inl fr_doneOn))])) (va_Qi (fun (r u : Int32) => r = u) (fun (u : Int32) (t9 : State) => ((0) ≤ u.toInt ∧ u.toInt ≤ 1) ∧ va_P (dC, dI) vwCl [(r, .inr (4, [dv, .ref r_came, .ref r_doneOn, .ref r_left, .ref r_key, .ref r_heardOn, .ref r_standing, .ref r_pile, .ref r_size, .ref r_firstOf, .ref r_nextOf, .ref r_done, .int r_doneCount, .int r_today, .long r_lot])), (t, .inr (7, [.int t_days, .int t_post, .int t_law, .int t_seed, .int t_lines, .int t_people, .int t_letters, .int t_lawTold, .ref t_hours, .ref t_kind, .ref t_master, .ref t_from, .ref t_to, .ref t_on, .ref t_told, .ref t_after, .ref t_worth, .ref t_by])), (t_by, .inl (kt_by, 49, .inl ft_by)), (r_doneOn, .inl (kr_doneOn, 49, .inl fr_doneOn))] t9.heap ∧ va_K (dC, dI) vwCl [] t9 ∧ va_D (va_A [(r, .inr (4, [dv, .ref r_came, .ref r_doneOn, .ref r_left, .ref r_key, .ref r_heardOn, .ref r_standing, .ref r_pile, .ref r_size, .ref r_firstOf, .ref r_nextOf, .ref r_done, .int r_doneCount, .int r_today, .long r_lot])), (t, .inr (7, [.int t_days, .int t_post, .int t_law, .int t_seed, .int t_lines, .int t_people, .int t_letters, .int t_lawTold, .ref t_hours, .ref t_kind, .ref t_master, .ref t_from, .ref t_to, .ref t_on, .ref t_told, .ref t_after, .ref t_worth, .ref t_by])), (t_by, .inl (kt_by, 49, .inl ft_by)), (r_doneOn, .inl (kr_doneOn, 49, .inl fr_doneOn))] sz) [(r, .inr (4, [dv, .ref r_came, .ref r_doneOn, .ref r_left, .ref r_key, .ref r_heardOn, .ref r_standing, .ref r_pile, .ref r_size, .ref r_firstOf, .ref r_nextOf, .ref r_done, .int r_doneCount, .int r_today, .long r_lot])), (t, .inr (7, [.int t_days, .int t_post, .int t_law, .int t_seed, .int t_lines, .int t_people, .int t_letters, .int t_lawTold, .ref t_hours, .ref t_kind, .ref t_master, .ref t_from, .ref t_to, .ref t_on, .ref t_told, .ref t_after, .ref t_worth, .ref t_by])), (t_by, .inl (kt_by, 49, .inl ft_by)), (r_doneOn, .inl (kr_doneOn, 49, .inl fr_doneOn))]) (va_A [(r, .inr (4, [dv, .ref r_came, .ref r_doneOn, .ref r_left, .ref r_key, .ref r_heardOn, .ref r_standing, .ref r_pile, .ref r_size, .ref r_firstOf, .ref r_nextOf, .ref r_done, .int r_doneCount, .int r_today, .long r_lot])), (t, .inr (7, [.int t_days, .int t_post, .int t_law, .int t_seed, .int t_lines, .int t_people, .int t_letters, .int t_lawTold, .ref t_hours, .ref t_kind, .ref t_master, .ref t_from, .ref t_to, .ref t_on, .ref t_told, .ref t_after, .ref t_worth, .ref t_by])), (t_by, .inl (kt_by, 49, .inl ft_by)), (r_doneOn, .inl (kr_doneOn, 49, .inl fr_doneOn))] sz)) 0 0 (va_A [(r, .inr (4, [dv, .ref r_came, .ref r_doneOn, .ref r_left, .ref r_key, .ref r_heardOn, .ref r_standing, .ref r_pile, .ref r_size, .ref r_firstOf, .ref r_nextOf, .ref r_done, .int r_doneCount, .int r_today, .long r_lot])), (t, .inr (7, [.int t_days, .int t_post, .int t_law, .int t_seed, .int t_lines, .int t_people, .int t_letters, .int t_lawTold, .ref t_hours, .ref t_kind, .ref t_master, .ref t_from, .ref t_to, .ref t_on, .ref t_told, .ref t_after, .ref t_worth, .ref t_by])), (t_by, .inl (kt_by, 49, .inl ft_by)), (r_doneOn, .inl (kr_doneOn, 49, .inl fr_doneOn))] sz) := by
  refine Met.ofW (cc := cX4_inTime) (maxL := 3) (ret := (some .boolean)) (by decide) rfl ?_
  intro pr_ en_ s me_ args below meth c s₁ B hml hv
  obtain ⟨rfl, hsz, hP, hK, hD0⟩ := hv
  have hx := B.exec
  have hb := B.bytes
  have hr := B.returns
  have hts0 := atoms_spec (ws := (.code yX4_inTime cX4_inTime 3 (some .boolean) :: ALLW)) B.pre
  have hts := fun (w : Cond) (h : w ∈ ALLW) => hts0 w (List.mem_cons_of_mem _ h)
  have hown : s.vm.findClass RX4 = some me_.cls := findClass_of_methodNamed B.named
  have hlocks := B.notSynchronized
  subst hsz
  have hD := hD0.self (sz := s.heap.size)
  generalize hAe : va_A [(r, .inr (4, [dv, .ref r_came, .ref r_doneOn, .ref r_left, .ref r_key, .ref r_heardOn, .ref r_standing, .ref r_pile, .ref r_size, .ref r_firstOf, .ref r_nextOf, .ref r_done, .int r_doneCount, .int r_today, .long r_lot])), (t, .inr (7, [.int t_days, .int t_post, .int t_law, .int t_seed, .int t_lines, .int t_people, .int t_letters, .int t_lawTold, .ref t_hours, .ref t_kind, .ref t_master, .ref t_from, .ref t_to, .ref t_on, .ref t_told, .ref t_after, .ref t_worth, .ref t_by])), (t_by, .inl (kt_by, 49, .inl ft_by)), (r_doneOn, .inl (kr_doneOn, 49, .inl fr_doneOn))] s.heap.size = A at hD ⊢
  have hA : ∀ q : Nat, s.heap.size ≤ q → A q := fun q h => by rw [← hAe]; exact Or.inr h
  have hS : va_S A s.heap s.heap [] := va_S.rf
  have hP : va_P (dC, dI) vwCl [(r, .inr (4, [dv, .ref r_came, .ref r_doneOn, .ref r_left, .ref r_key, .ref r_heardOn, .ref r_standing, .ref r_pile, .ref r_size, .ref r_firstOf, .ref r_nextOf, .ref r_done, .int r_doneCount, .int r_today, .long r_lot])), (t, .inr (7, [.int t_days, .int t_post, .int t_law, .int t_seed, .int t_lines, .int t_people, .int t_letters, .int t_lawTold, .ref t_hours, .ref t_kind, .ref t_master, .ref t_from, .ref t_to, .ref t_on, .ref t_told, .ref t_after, .ref t_worth, .ref t_by])), (t_by, .inl (kt_by, 49, .inl ft_by)), (r_doneOn, .inl (kr_doneOn, 49, .inl fr_doneOn))] s.heap := hP
  have hl := lv_entry ([.ref r, .ref t, .int a]) (n := 3) (Nat.le_of_ble_eq_true rfl)
  rw [lg_entry_eq]
  generalize (lg_sl ([.ref r, .ref t, .int a]) ++ List.replicate (3 - (lg_sl ([.ref r, .ref t, .int a])).length) Slot.unset).toArray = ls at hl ⊢
  have hl : lv_has ls 3 [(0, .ref r), (1, .ref t), (2, .int a)] := hl
  refine gQ (fun Q eQ => ?_)
  replace b_r_doneCount : hid ((0) ≤ r_doneCount.toInt ∧ r_doneCount.toInt ≤ 49) := b_r_doneCount
  replace b_r_today : hid ((0) ≤ r_today.toInt ∧ r_today.toInt ≤ 39) := b_r_today
  replace b_t_days : hid ((0) ≤ t_days.toInt ∧ t_days.toInt ≤ 40) := b_t_days
  replace b_t_post : hid ((0) ≤ t_post.toInt ∧ t_post.toInt ≤ 9) := b_t_post
  replace b_t_law : hid ((0) ≤ t_law.toInt ∧ t_law.toInt ≤ 3) := b_t_law
  replace b_t_people : hid ((0) ≤ t_people.toInt ∧ t_people.toInt ≤ 8) := b_t_people
  replace b_t_letters : hid ((0) ≤ t_letters.toInt ∧ t_letters.toInt ≤ 24) := b_t_letters
  replace b_t_lawTold : hid ((0) ≤ t_lawTold.toInt ∧ t_lawTold.toInt ≤ 1) := b_t_lawTold
  refine lv_aload_n hx hb dX4_inTime_0 rfl (lv_at hl 0 rfl) ?_
  refine lv_iload_n hx hb dX4_inTime_1 rfl (lv_at hl 2 rfl) ?_
  refine lv_aload_n hx hb dX4_inTime_2 rfl (lv_at hl 1 rfl) ?_
  refine va_get (D := (dC, dI)) (ci := 7) (v := .ref t_by) (C := RX7) (T := TX7) (N := 18) hx hb hts inA7 hown hK hP 1 rfl rfl 17 (by decide) (hts _ w_973) (fun _ h9 => h9) rfl dX4_inTime_3 ?_
  refine lv_iload_n hx hb dX4_inTime_6 rfl (lv_at hl 2 rfl) ?_
  refine va_iald hx hb hK hP 2 0 rfl rfl (vp_in_iff.mpr ⟨Int.le_trans (by decide) b_a.1, Int.lt_of_le_of_lt b_a.2 (by decide)⟩) dX4_inTime_7 ?_
  refine lv_topi (fun x_1 ex_1 => ?_)
  refine lv_iconst (v := (-1)) hx hb dX4_inTime_8 (by decide) ?_
  have rg_3 := q_rng x_1
  refine lv_icmp_ne (tgt := 19) hx hb dX4_inTime_9 (by decide) (fun c_2 => ?_) (fun c_2 => ?_)
  · have ec_2 := q_ne (a := x_1.toInt) (b := -1) rfl (by decide) c_2
    refine lv_aload_n hx hb dX4_inTime_19 rfl (lv_at hl 1 rfl) ?_
    refine va_get (D := (dC, dI)) (ci := 7) (v := .ref t_by) (C := RX7) (T := TX7) (N := 18) hx hb hts inA7 hown hK hP 1 rfl rfl 17 (by decide) (hts _ w_973) (fun _ h9 => h9) rfl dX4_inTime_20 ?_
    refine lv_iload_n hx hb dX4_inTime_23 rfl (lv_at hl 2 rfl) ?_
    refine va_iald hx hb hK hP 2 0 rfl rfl (vp_in_iff.mpr ⟨Int.le_trans (by decide) b_a.1, Int.lt_of_le_of_lt b_a.2 (by decide)⟩) dX4_inTime_24 ?_
    refine lv_topi (fun x_4 ex_4 => ?_)
    rw [show x_4 = x_1 from ex_4.trans ex_1.symm]
    clear ex_4 x_4
    have hPc := hP.sub (ws' := [(r, .inr (4, [dv, .ref r_came, .ref r_doneOn, .ref r_left, .ref r_key, .ref r_heardOn, .ref r_standing, .ref r_pile, .ref r_size, .ref r_firstOf, .ref r_nextOf, .ref r_done, .int r_doneCount, .int r_today, .long r_lot])), (r_doneOn, .inl (kr_doneOn, 49, .inl fr_doneOn))]) [0, 3] rfl
    have hDc := hD.sub (ws' := [(r, .inr (4, [dv, .ref r_came, .ref r_doneOn, .ref r_left, .ref r_key, .ref r_heardOn, .ref r_standing, .ref r_pile, .ref r_size, .ref r_firstOf, .ref r_nextOf, .ref r_done, .int r_doneCount, .int r_today, .long r_lot])), (r_doneOn, .inl (kr_doneOn, 49, .inl fr_doneOn))]) [0, 3] (by decide) rfl
    have hKc := hK.sub (tys' := [(kr_doneOn, .int)]) [1] rfl
    have hFc := va_free (wc := [(r, .inr (4, [dv, .ref r_came, .ref r_doneOn, .ref r_left, .ref r_key, .ref r_heardOn, .ref r_standing, .ref r_pile, .ref r_size, .ref r_firstOf, .ref r_nextOf, .ref r_done, .int r_doneCount, .int r_today, .long r_lot])), (r_doneOn, .inl (kr_doneOn, 49, .inl fr_doneOn))]) hD hS hA [0, 3] rfl
    refine va_calli (va_runV (As := [.int a, .int x_1]) (rest := []) ⟨hx, hb, hml, hown, hts⟩ (r_doneBy l dC dI s.heap.size r a x_1 dv r_came r_doneOn r_left r_key r_heardOn r_standing r_pile r_size r_firstOf r_nextOf r_done r_doneCount r_today r_lot kr_doneOn fr_doneOn b_a b_r_doneCount b_r_today) (cwV 2 hts (goodV w_974 w_975 w_976 w_36 w_977) rfl rfl rfl hdV_X4_doneBy ⟨Nat.le_of_ble_eq_true rfl, Nat.le_of_ble_eq_true rfl⟩) ⟨fun a U g mk q => by obtain ⟨q0, q1, qP, qK, qD⟩ := q; exact ⟨q0, q1, qP, va_K.moved (u := U) (U := U.calling g mk a) (Vm.Alike.refl U.vm) qK, qD⟩, va_recv hKc hPc (ci := 4) (q0 := 0) rfl rfl, fun U hU hW => ⟨rfl, by rw [hU], by rw [hU]; exact hPc, va_K.moved hW.alike hKc, hDc.weaken (fun _ _ _ _ => trivial)⟩⟩ rfl rfl hl.1 rfl (lv_room (Nat.le_of_ble_eq_true rfl)) dX4_inTime_25 ⟨Nat.le_of_ble_eq_true rfl, Nat.le_of_ble_eq_true rfl⟩) hS (fun q _ h => hFc q h) hFc (fun r_5 u9 t9 H1 locs ht hvm hw hB hz1 hk1 hS => ?_)
    subst hw
    obtain ⟨b_r_5, hP1, hK1, hD1⟩ := hB
    rw [ht] at hP1
    have hK1 := va_K.moved hvm.symm hK1
    obtain ⟨hP, hD⟩ := va_join (wr := [(t, .inr (7, [.int t_days, .int t_post, .int t_law, .int t_seed, .int t_lines, .int t_people, .int t_letters, .int t_lawTold, .ref t_hours, .ref t_kind, .ref t_master, .ref t_from, .ref t_to, .ref t_on, .ref t_told, .ref t_after, .ref t_worth, .ref t_by])), (t_by, .inl (kt_by, 49, .inl ft_by))]) (w1 := [(r, .inr (4, [dv, .ref r_came, .ref r_doneOn, .ref r_left, .ref r_key, .ref r_heardOn, .ref r_standing, .ref r_pile, .ref r_size, .ref r_firstOf, .ref r_nextOf, .ref r_done, .int r_doneCount, .int r_today, .long r_lot])), (r_doneOn, .inl (kr_doneOn, 49, .inl fr_doneOn))]) hP hD [0, 3] [1, 2] rfl rfl (by decide) (by decide) hk1 hFc hP1 hD1
    clear hPc hDc hKc hFc hz1 hk1 hP1 hD1 hK1
    generalize H1 = H at hP hS ⊢
    have hP : va_P (dC, dI) vwCl [(t, .inr (7, [.int t_days, .int t_post, .int t_law, .int t_seed, .int t_lines, .int t_people, .int t_letters, .int t_lawTold, .ref t_hours, .ref t_kind, .ref t_master, .ref t_from, .ref t_to, .ref t_on, .ref t_told, .ref t_after, .ref t_worth, .ref t_by])), (t_by, .inl (kt_by, 49, .inl ft_by)), (r, .inr (4, [dv, .ref r_came, .ref r_doneOn, .ref r_left, .ref r_key, .ref r_heardOn, .ref r_standing, .ref r_pile, .ref r_size, .ref r_firstOf, .ref r_nextOf, .ref r_done, .int r_doneCount, .int r_today, .long r_lot])), (r_doneOn, .inl (kr_doneOn, 49, .inl fr_doneOn))] H := hP
    have hD : va_D A [(t, .inr (7, [.int t_days, .int t_post, .int t_law, .int t_seed, .int t_lines, .int t_people, .int t_letters, .int t_lawTold, .ref t_hours, .ref t_kind, .ref t_master, .ref t_from, .ref t_to, .ref t_on, .ref t_told, .ref t_after, .ref t_worth, .ref t_by])), (t_by, .inl (kt_by, 49, .inl ft_by)), (r, .inr (4, [dv, .ref r_came, .ref r_doneOn, .ref r_left, .ref r_key, .ref r_heardOn, .ref r_standing, .ref r_pile, .ref r_size, .ref r_firstOf, .ref r_nextOf, .ref r_done, .int r_doneCount, .int r_today, .long r_lot])), (r_doneOn, .inl (kr_doneOn, 49, .inl fr_doneOn))] := hD
    have hP9 := hP.sub (ws' := [(r, .inr (4, [dv, .ref r_came, .ref r_doneOn, .ref r_left, .ref r_key, .ref r_heardOn, .ref r_standing, .ref r_pile, .ref r_size, .ref r_firstOf, .ref r_nextOf, .ref r_done, .int r_doneCount, .int r_today, .long r_lot])), (t, .inr (7, [.int t_days, .int t_post, .int t_law, .int t_seed, .int t_lines, .int t_people, .int t_letters, .int t_lawTold, .ref t_hours, .ref t_kind, .ref t_master, .ref t_from, .ref t_to, .ref t_on, .ref t_told, .ref t_after, .ref t_worth, .ref t_by])), (t_by, .inl (kt_by, 49, .inl ft_by)), (r_doneOn, .inl (kr_doneOn, 49, .inl fr_doneOn))]) [2, 0, 1, 3] rfl
    have hD9 := hD.sub (ws' := [(r, .inr (4, [dv, .ref r_came, .ref r_doneOn, .ref r_left, .ref r_key, .ref r_heardOn, .ref r_standing, .ref r_pile, .ref r_size, .ref r_firstOf, .ref r_nextOf, .ref r_done, .int r_doneCount, .int r_today, .long r_lot])), (t, .inr (7, [.int t_days, .int t_post, .int t_law, .int t_seed, .int t_lines, .int t_people, .int t_letters, .int t_lawTold, .ref t_hours, .ref t_kind, .ref t_master, .ref t_from, .ref t_to, .ref t_on, .ref t_told, .ref t_after, .ref t_worth, .ref t_by])), (t_by, .inl (kt_by, 49, .inl ft_by)), (r_doneOn, .inl (kr_doneOn, 49, .inl fr_doneOn))]) [2, 0, 1, 3] (by decide) rfl
    have hK9 := hK.sub (tys' := []) [] rfl
    refine gQe eQ ?_
    exact W.zret (v := r_5) hx hb hr (q_nz (by omega) (by omega)) (fun t9 ht hW => ⟨⟨r_5, r_5, rfl, rfl, b_r_5, by rw [ht]; exact hP9, va_K.moved hW.alike hK9, hD9⟩, hS.F ht⟩) hS.2.2 dX4_inTime_28
  · have ec_2 := q_nne (a := x_1.toInt) (b := -1) rfl (by decide) c_2
    refine lv_aload_n hx hb dX4_inTime_12 rfl (lv_at hl 1 rfl) ?_
    refine va_get (D := (dC, dI)) (ci := 7) (v := .int t_days) (C := RX7) (T := TX7) (N := 18) hx hb hts inA7 hown hK hP 1 rfl rfl 0 (by decide) (hts _ w_585) (fun _ h9 => h9) rfl dX4_inTime_13 ?_
    have b_t_days : (0) ≤ t_days.toInt ∧ t_days.toInt ≤ 40 := b_t_days
    refine lv_goto (tgt := 25) hx hb dX4_inTime_16 (by decide) ?_
    have hPc := hP.sub (ws' := [(r, .inr (4, [dv, .ref r_came, .ref r_doneOn, .ref r_left, .ref r_key, .ref r_heardOn, .ref r_standing, .ref r_pile, .ref r_size, .ref r_firstOf, .ref r_nextOf, .ref r_done, .int r_doneCount, .int r_today, .long r_lot])), (r_doneOn, .inl (kr_doneOn, 49, .inl fr_doneOn))]) [0, 3] rfl
    have hDc := hD.sub (ws' := [(r, .inr (4, [dv, .ref r_came, .ref r_doneOn, .ref r_left, .ref r_key, .ref r_heardOn, .ref r_standing, .ref r_pile, .ref r_size, .ref r_firstOf, .ref r_nextOf, .ref r_done, .int r_doneCount, .int r_today, .long r_lot])), (r_doneOn, .inl (kr_doneOn, 49, .inl fr_doneOn))]) [0, 3] (by decide) rfl
    have hKc := hK.sub (tys' := [(kr_doneOn, .int)]) [1] rfl
    have hFc := va_free (wc := [(r, .inr (4, [dv, .ref r_came, .ref r_doneOn, .ref r_left, .ref r_key, .ref r_heardOn, .ref r_standing, .ref r_pile, .ref r_size, .ref r_firstOf, .ref r_nextOf, .ref r_done, .int r_doneCount, .int r_today, .long r_lot])), (r_doneOn, .inl (kr_doneOn, 49, .inl fr_doneOn))]) hD hS hA [0, 3] rfl
    refine va_calli (va_runV (As := [.int a, .int t_days]) (rest := []) ⟨hx, hb, hml, hown, hts⟩ (r_doneBy l dC dI s.heap.size r a t_days dv r_came r_doneOn r_left r_key r_heardOn r_standing r_pile r_size r_firstOf r_nextOf r_done r_doneCount r_today r_lot kr_doneOn fr_doneOn b_a b_r_doneCount b_r_today) (cwV 2 hts (goodV w_974 w_975 w_976 w_36 w_977) rfl rfl rfl hdV_X4_doneBy ⟨Nat.le_of_ble_eq_true rfl, Nat.le_of_ble_eq_true rfl⟩) ⟨fun a U g mk q => by obtain ⟨q0, q1, qP, qK, qD⟩ := q; exact ⟨q0, q1, qP, va_K.moved (u := U) (U := U.calling g mk a) (Vm.Alike.refl U.vm) qK, qD⟩, va_recv hKc hPc (ci := 4) (q0 := 0) rfl rfl, fun U hU hW => ⟨rfl, by rw [hU], by rw [hU]; exact hPc, va_K.moved hW.alike hKc, hDc.weaken (fun _ _ _ _ => trivial)⟩⟩ rfl rfl hl.1 rfl (lv_room (Nat.le_of_ble_eq_true rfl)) dX4_inTime_25 ⟨Nat.le_of_ble_eq_true rfl, Nat.le_of_ble_eq_true rfl⟩) hS (fun q _ h => hFc q h) hFc (fun r_6 u9 t9 H1 locs ht hvm hw hB hz1 hk1 hS => ?_)
    subst hw
    obtain ⟨b_r_6, hP1, hK1, hD1⟩ := hB
    rw [ht] at hP1
    have hK1 := va_K.moved hvm.symm hK1
    obtain ⟨hP, hD⟩ := va_join (wr := [(t, .inr (7, [.int t_days, .int t_post, .int t_law, .int t_seed, .int t_lines, .int t_people, .int t_letters, .int t_lawTold, .ref t_hours, .ref t_kind, .ref t_master, .ref t_from, .ref t_to, .ref t_on, .ref t_told, .ref t_after, .ref t_worth, .ref t_by])), (t_by, .inl (kt_by, 49, .inl ft_by))]) (w1 := [(r, .inr (4, [dv, .ref r_came, .ref r_doneOn, .ref r_left, .ref r_key, .ref r_heardOn, .ref r_standing, .ref r_pile, .ref r_size, .ref r_firstOf, .ref r_nextOf, .ref r_done, .int r_doneCount, .int r_today, .long r_lot])), (r_doneOn, .inl (kr_doneOn, 49, .inl fr_doneOn))]) hP hD [0, 3] [1, 2] rfl rfl (by decide) (by decide) hk1 hFc hP1 hD1
    clear hPc hDc hKc hFc hz1 hk1 hP1 hD1 hK1
    generalize H1 = H at hP hS ⊢
    have hP : va_P (dC, dI) vwCl [(t, .inr (7, [.int t_days, .int t_post, .int t_law, .int t_seed, .int t_lines, .int t_people, .int t_letters, .int t_lawTold, .ref t_hours, .ref t_kind, .ref t_master, .ref t_from, .ref t_to, .ref t_on, .ref t_told, .ref t_after, .ref t_worth, .ref t_by])), (t_by, .inl (kt_by, 49, .inl ft_by)), (r, .inr (4, [dv, .ref r_came, .ref r_doneOn, .ref r_left, .ref r_key, .ref r_heardOn, .ref r_standing, .ref r_pile, .ref r_size, .ref r_firstOf, .ref r_nextOf, .ref r_done, .int r_doneCount, .int r_today, .long r_lot])), (r_doneOn, .inl (kr_doneOn, 49, .inl fr_doneOn))] H := hP
    have hD : va_D A [(t, .inr (7, [.int t_days, .int t_post, .int t_law, .int t_seed, .int t_lines, .int t_people, .int t_letters, .int t_lawTold, .ref t_hours, .ref t_kind, .ref t_master, .ref t_from, .ref t_to, .ref t_on, .ref t_told, .ref t_after, .ref t_worth, .ref t_by])), (t_by, .inl (kt_by, 49, .inl ft_by)), (r, .inr (4, [dv, .ref r_came, .ref r_doneOn, .ref r_left, .ref r_key, .ref r_heardOn, .ref r_standing, .ref r_pile, .ref r_size, .ref r_firstOf, .ref r_nextOf, .ref r_done, .int r_doneCount, .int r_today, .long r_lot])), (r_doneOn, .inl (kr_doneOn, 49, .inl fr_doneOn))] := hD
    have hP9 := hP.sub (ws' := [(r, .inr (4, [dv, .ref r_came, .ref r_doneOn, .ref r_left, .ref r_key, .ref r_heardOn, .ref r_standing, .ref r_pile, .ref r_size, .ref r_firstOf, .ref r_nextOf, .ref r_done, .int r_doneCount, .int r_today, .long r_lot])), (t, .inr (7, [.int t_days, .int t_post, .int t_law, .int t_seed, .int t_lines, .int t_people, .int t_letters, .int t_lawTold, .ref t_hours, .ref t_kind, .ref t_master, .ref t_from, .ref t_to, .ref t_on, .ref t_told, .ref t_after, .ref t_worth, .ref t_by])), (t_by, .inl (kt_by, 49, .inl ft_by)), (r_doneOn, .inl (kr_doneOn, 49, .inl fr_doneOn))]) [2, 0, 1, 3] rfl
    have hD9 := hD.sub (ws' := [(r, .inr (4, [dv, .ref r_came, .ref r_doneOn, .ref r_left, .ref r_key, .ref r_heardOn, .ref r_standing, .ref r_pile, .ref r_size, .ref r_firstOf, .ref r_nextOf, .ref r_done, .int r_doneCount, .int r_today, .long r_lot])), (t, .inr (7, [.int t_days, .int t_post, .int t_law, .int t_seed, .int t_lines, .int t_people, .int t_letters, .int t_lawTold, .ref t_hours, .ref t_kind, .ref t_master, .ref t_from, .ref t_to, .ref t_on, .ref t_told, .ref t_after, .ref t_worth, .ref t_by])), (t_by, .inl (kt_by, 49, .inl ft_by)), (r_doneOn, .inl (kr_doneOn, 49, .inl fr_doneOn))]) [2, 0, 1, 3] (by decide) rfl
    have hK9 := hK.sub (tys' := []) [] rfl
    refine gQe eQ ?_
    exact W.zret (v := r_6) hx hb hr (q_nz (by omega) (by omega)) (fun t9 ht hW => ⟨⟨r_6, r_6, rfl, rfl, b_r_6, by rw [ht]; exact hP9, va_K.moved hW.alike hK9, hD9⟩, hS.F ht⟩) hS.2.2 dX4_inTime_28
set_option maxHeartbeats 4000000 in
set_option maxRecDepth 100000 in
theorem r_worthIn (l : Launch) (dC : Nat → ClassId) (dI : Nat → Nat → Nat) (sz : Nat) (r : Nat) (t : Nat) (dv : Value) (r_came : Nat) (r_doneOn : Nat) (r_left : Nat) (r_key : Nat) (r_heardOn : Nat) (r_standing : Nat) (r_pile : Nat) (r_size : Nat) (r_firstOf : Nat) (r_nextOf : Nat) (r_done : Nat) (r_doneCount : Int32) (r_today : Int32) (r_lot : Int64) (t_days : Int32) (t_post : Int32) (t_law : Int32) (t_seed : Int32) (t_lines : Int32) (t_people : Int32) (t_letters : Int32) (t_lawTold : Int32) (t_hours : Nat) (t_kind : Nat) (t_master : Nat) (t_from : Nat) (t_to : Nat) (t_on : Nat) (t_told : Nat) (t_after : Nat) (t_worth : Nat) (t_by : Nat) (kt_by : ClassId) (ft_by : Nat → Int32) (kr_doneOn : ClassId) (fr_doneOn : Nat → Int32) (kt_worth : ClassId) (ft_worth : Nat → Int32) (b_r_doneCount : (0) ≤ r_doneCount.toInt ∧ r_doneCount.toInt ≤ 49) (b_r_today : (0) ≤ r_today.toInt ∧ r_today.toInt ≤ 39) (b_t_days : (0) ≤ t_days.toInt ∧ t_days.toInt ≤ 40) (b_t_post : (0) ≤ t_post.toInt ∧ t_post.toInt ≤ 9) (b_t_law : (0) ≤ t_law.toInt ∧ t_law.toInt ≤ 3) (b_t_people : (0) ≤ t_people.toInt ∧ t_people.toInt ≤ 8) (b_t_letters : (0) ≤ t_letters.toInt ∧ t_letters.toInt ≤ 24) (b_t_lawTold : (0) ≤ t_lawTold.toInt ∧ t_lawTold.toInt ≤ 1) : Met l yX4_worthIn (.code yX4_worthIn cX4_worthIn 4 (some .int) :: ALLW) ({ frames := 2, cells := 0, slots := 0, locals := 44 }) (va_Pc [.ref r, .ref t] (fun U => U.heap.size = sz ∧ va_P (dC, dI) vwCl [(r, .inr (4, [dv, .ref r_came, .ref r_doneOn, .ref r_left, .ref r_key, .ref r_heardOn, .ref r_standing, .ref r_pile, .ref r_size, .ref r_firstOf, .ref r_nextOf, .ref r_done, .int r_doneCount, .int r_today, .long r_lot])), (t, .inr (7, [.int t_days, .int t_post, .int t_law, .int t_seed, .int t_lines, .int t_people, .int t_letters, .int t_lawTold, .ref t_hours, .ref t_kind, .ref t_master, .ref t_from, .ref t_to, .ref t_on, .ref t_told, .ref t_after, .ref t_worth, .ref t_by])), (t_by, .inl (kt_by, 49, .inl ft_by)), (r_doneOn, .inl (kr_doneOn, 49, .inl fr_doneOn)), (t_worth, .inl (kt_worth, 49, .inl ft_worth))] U.heap ∧ va_K (dC, dI) vwCl [(kt_by, .int), (kr_doneOn, .int), (kt_worth, .int)] U ∧ va_D (fun _ => True) [(r, .inr (4, [dv, .ref r_came, .ref r_doneOn, .ref r_left, .ref r_key, .ref r_heardOn, .ref r_standing, .ref r_pile, .ref r_size, .ref r_firstOf, .ref r_nextOf, .ref r_done, .int r_doneCount, .int r_today, .long r_lot])), (t, .inr (7, [.int t_days, .int t_post, .int t_law, .int t_seed, .int t_lines, .int t_people, .int t_letters, .int t_lawTold, .ref t_hours, .ref t_kind, .ref t_master, .ref t_from, .ref t_to, .ref t_on, .ref t_told, .ref t_after, .ref t_worth, .ref t_by])), (t_by, .inl (kt_by, 49, .inl ft_by)), (r_doneOn, .inl (kr_doneOn, 49, .inl fr_doneOn)), (t_worth, .inl (kt_worth, 49, .inl ft_worth))])) (va_Qi (fun (r u : Int32) => r = u) (fun (u : Int32) (t9 : State) => va_P (dC, dI) vwCl [(r, .inr (4, [dv, .ref r_came, .ref r_doneOn, .ref r_left, .ref r_key, .ref r_heardOn, .ref r_standing, .ref r_pile, .ref r_size, .ref r_firstOf, .ref r_nextOf, .ref r_done, .int r_doneCount, .int r_today, .long r_lot])), (t, .inr (7, [.int t_days, .int t_post, .int t_law, .int t_seed, .int t_lines, .int t_people, .int t_letters, .int t_lawTold, .ref t_hours, .ref t_kind, .ref t_master, .ref t_from, .ref t_to, .ref t_on, .ref t_told, .ref t_after, .ref t_worth, .ref t_by])), (t_by, .inl (kt_by, 49, .inl ft_by)), (r_doneOn, .inl (kr_doneOn, 49, .inl fr_doneOn)), (t_worth, .inl (kt_worth, 49, .inl ft_worth))] t9.heap ∧ va_K (dC, dI) vwCl [] t9 ∧ va_D (va_A [(r, .inr (4, [dv, .ref r_came, .ref r_doneOn, .ref r_left, .ref r_key, .ref r_heardOn, .ref r_standing, .ref r_pile, .ref r_size, .ref r_firstOf, .ref r_nextOf, .ref r_done, .int r_doneCount, .int r_today, .long r_lot])), (t, .inr (7, [.int t_days, .int t_post, .int t_law, .int t_seed, .int t_lines, .int t_people, .int t_letters, .int t_lawTold, .ref t_hours, .ref t_kind, .ref t_master, .ref t_from, .ref t_to, .ref t_on, .ref t_told, .ref t_after, .ref t_worth, .ref t_by])), (t_by, .inl (kt_by, 49, .inl ft_by)), (r_doneOn, .inl (kr_doneOn, 49, .inl fr_doneOn)), (t_worth, .inl (kt_worth, 49, .inl ft_worth))] sz) [(r, .inr (4, [dv, .ref r_came, .ref r_doneOn, .ref r_left, .ref r_key, .ref r_heardOn, .ref r_standing, .ref r_pile, .ref r_size, .ref r_firstOf, .ref r_nextOf, .ref r_done, .int r_doneCount, .int r_today, .long r_lot])), (t, .inr (7, [.int t_days, .int t_post, .int t_law, .int t_seed, .int t_lines, .int t_people, .int t_letters, .int t_lawTold, .ref t_hours, .ref t_kind, .ref t_master, .ref t_from, .ref t_to, .ref t_on, .ref t_told, .ref t_after, .ref t_worth, .ref t_by])), (t_by, .inl (kt_by, 49, .inl ft_by)), (r_doneOn, .inl (kr_doneOn, 49, .inl fr_doneOn)), (t_worth, .inl (kt_worth, 49, .inl ft_worth))]) (va_A [(r, .inr (4, [dv, .ref r_came, .ref r_doneOn, .ref r_left, .ref r_key, .ref r_heardOn, .ref r_standing, .ref r_pile, .ref r_size, .ref r_firstOf, .ref r_nextOf, .ref r_done, .int r_doneCount, .int r_today, .long r_lot])), (t, .inr (7, [.int t_days, .int t_post, .int t_law, .int t_seed, .int t_lines, .int t_people, .int t_letters, .int t_lawTold, .ref t_hours, .ref t_kind, .ref t_master, .ref t_from, .ref t_to, .ref t_on, .ref t_told, .ref t_after, .ref t_worth, .ref t_by])), (t_by, .inl (kt_by, 49, .inl ft_by)), (r_doneOn, .inl (kr_doneOn, 49, .inl fr_doneOn)), (t_worth, .inl (kt_worth, 49, .inl ft_worth))] sz)) 0 0 (va_A [(r, .inr (4, [dv, .ref r_came, .ref r_doneOn, .ref r_left, .ref r_key, .ref r_heardOn, .ref r_standing, .ref r_pile, .ref r_size, .ref r_firstOf, .ref r_nextOf, .ref r_done, .int r_doneCount, .int r_today, .long r_lot])), (t, .inr (7, [.int t_days, .int t_post, .int t_law, .int t_seed, .int t_lines, .int t_people, .int t_letters, .int t_lawTold, .ref t_hours, .ref t_kind, .ref t_master, .ref t_from, .ref t_to, .ref t_on, .ref t_told, .ref t_after, .ref t_worth, .ref t_by])), (t_by, .inl (kt_by, 49, .inl ft_by)), (r_doneOn, .inl (kr_doneOn, 49, .inl fr_doneOn)), (t_worth, .inl (kt_worth, 49, .inl ft_worth))] sz) := by
  refine Met.ofW (cc := cX4_worthIn) (maxL := 4) (ret := (some .int)) (by decide) rfl ?_
  intro pr_ en_ s me_ args below meth c s₁ B hml hv
  obtain ⟨rfl, hsz, hP, hK, hD0⟩ := hv
  have hx := B.exec
  have hb := B.bytes
  have hr := B.returns
  have hts0 := atoms_spec (ws := (.code yX4_worthIn cX4_worthIn 4 (some .int) :: ALLW)) B.pre
  have hts := fun (w : Cond) (h : w ∈ ALLW) => hts0 w (List.mem_cons_of_mem _ h)
  have hown : s.vm.findClass RX4 = some me_.cls := findClass_of_methodNamed B.named
  have hlocks := B.notSynchronized
  subst hsz
  have hD := hD0.self (sz := s.heap.size)
  generalize hAe : va_A [(r, .inr (4, [dv, .ref r_came, .ref r_doneOn, .ref r_left, .ref r_key, .ref r_heardOn, .ref r_standing, .ref r_pile, .ref r_size, .ref r_firstOf, .ref r_nextOf, .ref r_done, .int r_doneCount, .int r_today, .long r_lot])), (t, .inr (7, [.int t_days, .int t_post, .int t_law, .int t_seed, .int t_lines, .int t_people, .int t_letters, .int t_lawTold, .ref t_hours, .ref t_kind, .ref t_master, .ref t_from, .ref t_to, .ref t_on, .ref t_told, .ref t_after, .ref t_worth, .ref t_by])), (t_by, .inl (kt_by, 49, .inl ft_by)), (r_doneOn, .inl (kr_doneOn, 49, .inl fr_doneOn)), (t_worth, .inl (kt_worth, 49, .inl ft_worth))] s.heap.size = A at hD ⊢
  have hA : ∀ q : Nat, s.heap.size ≤ q → A q := fun q h => by rw [← hAe]; exact Or.inr h
  have hS : va_S A s.heap s.heap [] := va_S.rf
  have hP : va_P (dC, dI) vwCl [(r, .inr (4, [dv, .ref r_came, .ref r_doneOn, .ref r_left, .ref r_key, .ref r_heardOn, .ref r_standing, .ref r_pile, .ref r_size, .ref r_firstOf, .ref r_nextOf, .ref r_done, .int r_doneCount, .int r_today, .long r_lot])), (t, .inr (7, [.int t_days, .int t_post, .int t_law, .int t_seed, .int t_lines, .int t_people, .int t_letters, .int t_lawTold, .ref t_hours, .ref t_kind, .ref t_master, .ref t_from, .ref t_to, .ref t_on, .ref t_told, .ref t_after, .ref t_worth, .ref t_by])), (t_by, .inl (kt_by, 49, .inl ft_by)), (r_doneOn, .inl (kr_doneOn, 49, .inl fr_doneOn)), (t_worth, .inl (kt_worth, 49, .inl ft_worth))] s.heap := hP
  have hl := lv_entry ([.ref r, .ref t]) (n := 4) (Nat.le_of_ble_eq_true rfl)
  rw [lg_entry_eq]
  generalize (lg_sl ([.ref r, .ref t]) ++ List.replicate (4 - (lg_sl ([.ref r, .ref t])).length) Slot.unset).toArray = ls at hl ⊢
  have hl : lv_has ls 4 [(0, .ref r), (1, .ref t)] := hl
  refine gQ (fun Q eQ => ?_)
  replace b_r_doneCount : hid ((0) ≤ r_doneCount.toInt ∧ r_doneCount.toInt ≤ 49) := b_r_doneCount
  replace b_r_today : hid ((0) ≤ r_today.toInt ∧ r_today.toInt ≤ 39) := b_r_today
  replace b_t_days : hid ((0) ≤ t_days.toInt ∧ t_days.toInt ≤ 40) := b_t_days
  replace b_t_post : hid ((0) ≤ t_post.toInt ∧ t_post.toInt ≤ 9) := b_t_post
  replace b_t_law : hid ((0) ≤ t_law.toInt ∧ t_law.toInt ≤ 3) := b_t_law
  replace b_t_people : hid ((0) ≤ t_people.toInt ∧ t_people.toInt ≤ 8) := b_t_people
  replace b_t_letters : hid ((0) ≤ t_letters.toInt ∧ t_letters.toInt ≤ 24) := b_t_letters
  replace b_t_lawTold : hid ((0) ≤ t_lawTold.toInt ∧ t_lawTold.toInt ≤ 1) := b_t_lawTold
  refine lv_iconst (v := 0) hx hb dX4_worthIn_0 (by decide) ?_
  refine lv_istore_n (lv' := [(2, .int 0), (0, .ref r), (1, .ref t)]) hx hb dX4_worthIn_1 rfl hl (by decide) rfl (fun ls hl => ?_)
  refine lv_iconst (v := 0) hx hb dX4_worthIn_2 (by decide) ?_
  refine lv_istore_n (lv' := [(3, .int 0), (2, .int 0), (0, .ref r), (1, .ref t)]) hx hb dX4_worthIn_3 rfl hl (by decide) rfl (fun ls hl => ?_)
  have hL4_74 : ∀ (k : Nat) (v_9 : Int32) (v_10 : Int32) (H : Heap) (locs : List Loc) (ls : Array Slot), (24 - v_10.toInt).toNat < k → ((0) ≤ v_10.toInt ∧ v_10.toInt ≤ 24) → va_P (dC, dI) vwCl [(r, .inr (4, [dv, .ref r_came, .ref r_doneOn, .ref r_left, .ref r_key, .ref r_heardOn, .ref r_standing, .ref r_pile, .ref r_size, .ref r_firstOf, .ref r_nextOf, .ref r_done, .int r_doneCount, .int r_today, .long r_lot])), (t, .inr (7, [.int t_days, .int t_post, .int t_law, .int t_seed, .int t_lines, .int t_people, .int t_letters, .int t_lawTold, .ref t_hours, .ref t_kind, .ref t_master, .ref t_from, .ref t_to, .ref t_on, .ref t_told, .ref t_after, .ref t_worth, .ref t_by])), (t_by, .inl (kt_by, 49, .inl ft_by)), (r_doneOn, .inl (kr_doneOn, 49, .inl fr_doneOn)), (t_worth, .inl (kt_worth, 49, .inl ft_worth))] H → va_D A [(r, .inr (4, [dv, .ref r_came, .ref r_doneOn, .ref r_left, .ref r_key, .ref r_heardOn, .ref r_standing, .ref r_pile, .ref r_size, .ref r_firstOf, .ref r_nextOf, .ref r_done, .int r_doneCount, .int r_today, .long r_lot])), (t, .inr (7, [.int t_days, .int t_post, .int t_law, .int t_seed, .int t_lines, .int t_people, .int t_letters, .int t_lawTold, .ref t_hours, .ref t_kind, .ref t_master, .ref t_from, .ref t_to, .ref t_on, .ref t_told, .ref t_after, .ref t_worth, .ref t_by])), (t_by, .inl (kt_by, 49, .inl ft_by)), (r_doneOn, .inl (kr_doneOn, 49, .inl fr_doneOn)), (t_worth, .inl (kt_worth, 49, .inl ft_worth))] → va_S A s.heap H locs → lv_has ls 4 [(0, .ref r), (1, .ref t), (2, .int v_9), (3, .int v_10)] → W pr_ l en_ ({ frames := 2, cells := 0, slots := 0, locals := 44 }) s me_ ([.ref r, .ref t]).toArray below meth c H locs 0 0 Q (F0 me_ 4 ls []) := by
    intro k
    induction k with
    | zero => intro v_9 v_10 H locs ls hmu; exact absurd hmu (Nat.not_lt_zero _)
    | succ k ih4_74 =>
      intro v_9 v_10 H locs ls hmu4 b_v_10 hP hD hS hl
      refine lv_iload_n hx hb dX4_worthIn_4 rfl (lv_at hl 3 rfl) ?_
      refine lv_aload_n hx hb dX4_worthIn_5 rfl (lv_at hl 1 rfl) ?_
      refine va_get (D := (dC, dI)) (ci := 7) (v := .int t_letters) (C := RX7) (T := TX7) (N := 18) hx hb hts inA7 hown hK hP 1 rfl rfl 6 (by decide) (hts _ w_596) (fun _ h9 => h9) rfl dX4_worthIn_6 ?_
      have b_t_letters : (0) ≤ t_letters.toInt ∧ t_letters.toInt ≤ 24 := b_t_letters
      refine lv_icmp_ge (tgt := 40) hx hb dX4_worthIn_9 (by decide) (fun c_75 => ?_) (fun c_75 => ?_)
      · have ec_75 := q_ge (a := v_10.toInt) (b := t_letters.toInt) rfl rfl c_75
        refine lv_iload_n hx hb dX4_worthIn_40 rfl (lv_at hl 2 rfl) ?_
        have hP9 := hP.sub (ws' := [(r, .inr (4, [dv, .ref r_came, .ref r_doneOn, .ref r_left, .ref r_key, .ref r_heardOn, .ref r_standing, .ref r_pile, .ref r_size, .ref r_firstOf, .ref r_nextOf, .ref r_done, .int r_doneCount, .int r_today, .long r_lot])), (t, .inr (7, [.int t_days, .int t_post, .int t_law, .int t_seed, .int t_lines, .int t_people, .int t_letters, .int t_lawTold, .ref t_hours, .ref t_kind, .ref t_master, .ref t_from, .ref t_to, .ref t_on, .ref t_told, .ref t_after, .ref t_worth, .ref t_by])), (t_by, .inl (kt_by, 49, .inl ft_by)), (r_doneOn, .inl (kr_doneOn, 49, .inl fr_doneOn)), (t_worth, .inl (kt_worth, 49, .inl ft_worth))]) [0, 1, 2, 3, 4] rfl
        have hD9 := hD.sub (ws' := [(r, .inr (4, [dv, .ref r_came, .ref r_doneOn, .ref r_left, .ref r_key, .ref r_heardOn, .ref r_standing, .ref r_pile, .ref r_size, .ref r_firstOf, .ref r_nextOf, .ref r_done, .int r_doneCount, .int r_today, .long r_lot])), (t, .inr (7, [.int t_days, .int t_post, .int t_law, .int t_seed, .int t_lines, .int t_people, .int t_letters, .int t_lawTold, .ref t_hours, .ref t_kind, .ref t_master, .ref t_from, .ref t_to, .ref t_on, .ref t_told, .ref t_after, .ref t_worth, .ref t_by])), (t_by, .inl (kt_by, 49, .inl ft_by)), (r_doneOn, .inl (kr_doneOn, 49, .inl fr_doneOn)), (t_worth, .inl (kt_worth, 49, .inl ft_worth))]) [0, 1, 2, 3, 4] (by decide) rfl
        have hK9 := hK.sub (tys' := []) [] rfl
        refine gQe eQ ?_
        exact W.iret (v := v_9) hx hb hr (fun t9 ht hW => ⟨⟨v_9, v_9, rfl, rfl, by rw [ht]; exact hP9, va_K.moved hW.alike hK9, hD9⟩, hS.F ht⟩) hS.2.2 dX4_worthIn_41
      · have ec_75 := q_nge (a := v_10.toInt) (b := t_letters.toInt) rfl rfl c_75
        refine lv_iload_n hx hb dX4_worthIn_12 rfl (lv_at hl 2 rfl) ?_
        refine lv_aload_n hx hb dX4_worthIn_13 rfl (lv_at hl 0 rfl) ?_
        refine lv_aload_n hx hb dX4_worthIn_14 rfl (lv_at hl 1 rfl) ?_
        refine lv_iload_n hx hb dX4_worthIn_15 rfl (lv_at hl 3 rfl) ?_
        have bq_76 : (0) ≤ v_10.toInt ∧ v_10.toInt ≤ 48 := ⟨by omega, by omega⟩
        have hPc := hP.sub (ws' := [(r, .inr (4, [dv, .ref r_came, .ref r_doneOn, .ref r_left, .ref r_key, .ref r_heardOn, .ref r_standing, .ref r_pile, .ref r_size, .ref r_firstOf, .ref r_nextOf, .ref r_done, .int r_doneCount, .int r_today, .long r_lot])), (t, .inr (7, [.int t_days, .int t_post, .int t_law, .int t_seed, .int t_lines, .int t_people, .int t_letters, .int t_lawTold, .ref t_hours, .ref t_kind, .ref t_master, .ref t_from, .ref t_to, .ref t_on, .ref t_told, .ref t_after, .ref t_worth, .ref t_by])), (t_by, .inl (kt_by, 49, .inl ft_by)), (r_doneOn, .inl (kr_doneOn, 49, .inl fr_doneOn))]) [0, 1, 2, 3] rfl
        have hDc := hD.sub (ws' := [(r, .inr (4, [dv, .ref r_came, .ref r_doneOn, .ref r_left, .ref r_key, .ref r_heardOn, .ref r_standing, .ref r_pile, .ref r_size, .ref r_firstOf, .ref r_nextOf, .ref r_done, .int r_doneCount, .int r_today, .long r_lot])), (t, .inr (7, [.int t_days, .int t_post, .int t_law, .int t_seed, .int t_lines, .int t_people, .int t_letters, .int t_lawTold, .ref t_hours, .ref t_kind, .ref t_master, .ref t_from, .ref t_to, .ref t_on, .ref t_told, .ref t_after, .ref t_worth, .ref t_by])), (t_by, .inl (kt_by, 49, .inl ft_by)), (r_doneOn, .inl (kr_doneOn, 49, .inl fr_doneOn))]) [0, 1, 2, 3] (by decide) rfl
        have hKc := hK.sub (tys' := [(kt_by, .int), (kr_doneOn, .int)]) [0, 1] rfl
        have hFc := va_free (wc := [(r, .inr (4, [dv, .ref r_came, .ref r_doneOn, .ref r_left, .ref r_key, .ref r_heardOn, .ref r_standing, .ref r_pile, .ref r_size, .ref r_firstOf, .ref r_nextOf, .ref r_done, .int r_doneCount, .int r_today, .long r_lot])), (t, .inr (7, [.int t_days, .int t_post, .int t_law, .int t_seed, .int t_lines, .int t_people, .int t_letters, .int t_lawTold, .ref t_hours, .ref t_kind, .ref t_master, .ref t_from, .ref t_to, .ref t_on, .ref t_told, .ref t_after, .ref t_worth, .ref t_by])), (t_by, .inl (kt_by, 49, .inl ft_by)), (r_doneOn, .inl (kr_doneOn, 49, .inl fr_doneOn))]) hD hS hA [0, 1, 2, 3] rfl
        refine va_calli (va_runV (As := [.ref t, .int v_10]) (rest := [.int v_9]) ⟨hx, hb, hml, hown, hts⟩ (r_inTime l dC dI H.size r t v_10 dv r_came r_doneOn r_left r_key r_heardOn r_standing r_pile r_size r_firstOf r_nextOf r_done r_doneCount r_today r_lot t_days t_post t_law t_seed t_lines t_people t_letters t_lawTold t_hours t_kind t_master t_from t_to t_on t_told t_after t_worth t_by kt_by ft_by kr_doneOn fr_doneOn bq_76 b_r_doneCount b_r_today b_t_days b_t_post b_t_law b_t_people b_t_letters b_t_lawTold) (cwV 2 hts (goodV w_969 w_970 w_971 w_36 w_972) rfl rfl rfl hdV_X4_inTime ⟨Nat.le_of_ble_eq_true rfl, Nat.le_of_ble_eq_true rfl⟩) ⟨fun a U g mk q => by obtain ⟨q0, q1, qP, qK, qD⟩ := q; exact ⟨q0, q1, qP, va_K.moved (u := U) (U := U.calling g mk a) (Vm.Alike.refl U.vm) qK, qD⟩, va_recv hKc hPc (ci := 4) (q0 := 0) rfl rfl, fun U hU hW => ⟨rfl, by rw [hU], by rw [hU]; exact hPc, va_K.moved hW.alike hKc, hDc.weaken (fun _ _ _ _ => trivial)⟩⟩ rfl rfl hl.1 rfl (lv_room (Nat.le_of_ble_eq_true rfl)) dX4_worthIn_16 ⟨Nat.le_of_ble_eq_true rfl, Nat.le_of_ble_eq_true rfl⟩) hS (fun q _ h => hFc q h) hFc (fun r_77 u9 t9 H1 locs ht hvm hw hB hz1 hk1 hS => ?_)
        subst hw
        obtain ⟨b_r_77, hP1, hK1, hD1⟩ := hB
        rw [ht] at hP1
        have hK1 := va_K.moved hvm.symm hK1
        obtain ⟨hP, hD⟩ := va_join (wr := [(t_worth, .inl (kt_worth, 49, .inl ft_worth))]) (w1 := [(r, .inr (4, [dv, .ref r_came, .ref r_doneOn, .ref r_left, .ref r_key, .ref r_heardOn, .ref r_standing, .ref r_pile, .ref r_size, .ref r_firstOf, .ref r_nextOf, .ref r_done, .int r_doneCount, .int r_today, .long r_lot])), (t, .inr (7, [.int t_days, .int t_post, .int t_law, .int t_seed, .int t_lines, .int t_people, .int t_letters, .int t_lawTold, .ref t_hours, .ref t_kind, .ref t_master, .ref t_from, .ref t_to, .ref t_on, .ref t_told, .ref t_after, .ref t_worth, .ref t_by])), (t_by, .inl (kt_by, 49, .inl ft_by)), (r_doneOn, .inl (kr_doneOn, 49, .inl fr_doneOn))]) hP hD [0, 1, 2, 3] [4] rfl rfl (by decide) (by decide) hk1 hFc hP1 hD1
        clear hPc hDc hKc hFc hz1 hk1 hP1 hD1 hK1
        generalize H1 = H at hP hS ⊢
        have hP : va_P (dC, dI) vwCl [(t_worth, .inl (kt_worth, 49, .inl ft_worth)), (r, .inr (4, [dv, .ref r_came, .ref r_doneOn, .ref r_left, .ref r_key, .ref r_heardOn, .ref r_standing, .ref r_pile, .ref r_size, .ref r_firstOf, .ref r_nextOf, .ref r_done, .int r_doneCount, .int r_today, .long r_lot])), (t, .inr (7, [.int t_days, .int t_post, .int t_law, .int t_seed, .int t_lines, .int t_people, .int t_letters, .int t_lawTold, .ref t_hours, .ref t_kind, .ref t_master, .ref t_from, .ref t_to, .ref t_on, .ref t_told, .ref t_after, .ref t_worth, .ref t_by])), (t_by, .inl (kt_by, 49, .inl ft_by)), (r_doneOn, .inl (kr_doneOn, 49, .inl fr_doneOn))] H := hP
        have hD : va_D A [(t_worth, .inl (kt_worth, 49, .inl ft_worth)), (r, .inr (4, [dv, .ref r_came, .ref r_doneOn, .ref r_left, .ref r_key, .ref r_heardOn, .ref r_standing, .ref r_pile, .ref r_size, .ref r_firstOf, .ref r_nextOf, .ref r_done, .int r_doneCount, .int r_today, .long r_lot])), (t, .inr (7, [.int t_days, .int t_post, .int t_law, .int t_seed, .int t_lines, .int t_people, .int t_letters, .int t_lawTold, .ref t_hours, .ref t_kind, .ref t_master, .ref t_from, .ref t_to, .ref t_on, .ref t_told, .ref t_after, .ref t_worth, .ref t_by])), (t_by, .inl (kt_by, 49, .inl ft_by)), (r_doneOn, .inl (kr_doneOn, 49, .inl fr_doneOn))] := hD
        refine lv_if_eq (tgt := 31) hx hb dX4_worthIn_19 (by decide) (fun c_78 => ?_) (fun c_78 => ?_)
        · have ec_78 := q_eq (a := r_77.toInt) (b := 0) rfl (by decide) c_78
          refine lv_iconst (v := 0) hx hb dX4_worthIn_31 (by decide) ?_
          refine lv_iadd hx hb dX4_worthIn_32 ?_
          refine lv_topi (fun x_79 ex_79 => ?_)
          have rg_80 := q_rng v_9
          have b_x_79 := q_add (a := v_9.toInt) (b := 0) ex_79 rfl (by decide) (by omega) (by omega)
          refine lv_istore_n (lv' := [(2, .int x_79), (0, .ref r), (1, .ref t), (3, .int v_10)]) hx hb dX4_worthIn_33 rfl hl (by decide) rfl (fun ls hl => ?_)
          obtain ⟨y_81, ey_81⟩ : ∃ y : Int32, y = v_10 + Int32.ofInt (1) := ⟨_, rfl⟩
          have b_y_81 := q_add (a := v_10.toInt) (b := 1) ey_81 rfl (by decide) (by omega) (by omega)
          refine lv_iinc (v := y_81) (lv' := [(3, .int y_81), (2, .int x_79), (0, .ref r), (1, .ref t)]) hx hb dX4_worthIn_34 hl (k := 3) rfl ey_81.symm (by decide) rfl (fun ls hl => ?_)
          refine lv_goto (tgt := 4) hx hb dX4_worthIn_37 (by decide) ?_
          have bq_82 : (0) ≤ y_81.toInt ∧ y_81.toInt ≤ 24 := ⟨by omega, by omega⟩
          exact ih4_74 x_79 y_81 H locs ls (by omega) bq_82 (hP.sub (ws' := [(r, .inr (4, [dv, .ref r_came, .ref r_doneOn, .ref r_left, .ref r_key, .ref r_heardOn, .ref r_standing, .ref r_pile, .ref r_size, .ref r_firstOf, .ref r_nextOf, .ref r_done, .int r_doneCount, .int r_today, .long r_lot])), (t, .inr (7, [.int t_days, .int t_post, .int t_law, .int t_seed, .int t_lines, .int t_people, .int t_letters, .int t_lawTold, .ref t_hours, .ref t_kind, .ref t_master, .ref t_from, .ref t_to, .ref t_on, .ref t_told, .ref t_after, .ref t_worth, .ref t_by])), (t_by, .inl (kt_by, 49, .inl ft_by)), (r_doneOn, .inl (kr_doneOn, 49, .inl fr_doneOn)), (t_worth, .inl (kt_worth, 49, .inl ft_worth))]) [1, 2, 3, 4, 0] rfl) (hD.sub (ws' := [(r, .inr (4, [dv, .ref r_came, .ref r_doneOn, .ref r_left, .ref r_key, .ref r_heardOn, .ref r_standing, .ref r_pile, .ref r_size, .ref r_firstOf, .ref r_nextOf, .ref r_done, .int r_doneCount, .int r_today, .long r_lot])), (t, .inr (7, [.int t_days, .int t_post, .int t_law, .int t_seed, .int t_lines, .int t_people, .int t_letters, .int t_lawTold, .ref t_hours, .ref t_kind, .ref t_master, .ref t_from, .ref t_to, .ref t_on, .ref t_told, .ref t_after, .ref t_worth, .ref t_by])), (t_by, .inl (kt_by, 49, .inl ft_by)), (r_doneOn, .inl (kr_doneOn, 49, .inl fr_doneOn)), (t_worth, .inl (kt_worth, 49, .inl ft_worth))]) [1, 2, 3, 4, 0] (by decide) rfl) hS (lv_sub hl [2, 3, 1, 0] rfl)
        · have ec_78 := q_neq (a := r_77.toInt) (b := 0) rfl (by decide) c_78
          refine lv_aload_n hx hb dX4_worthIn_22 rfl (lv_at hl 1 rfl) ?_
          refine va_get (D := (dC, dI)) (ci := 7) (v := .ref t_worth) (C := RX7) (T := TX7) (N := 18) hx hb hts inA7 hown hK hP 2 rfl rfl 16 (by decide) (hts _ w_968) (fun _ h9 => h9) rfl dX4_worthIn_23 ?_
          refine lv_iload_n hx hb dX4_worthIn_26 rfl (lv_at hl 3 rfl) ?_
          refine va_iald hx hb hK hP 0 2 rfl rfl (vp_in_iff.mpr ⟨Int.le_trans (by decide) b_v_10.1, Int.lt_of_le_of_lt b_v_10.2 (by decide)⟩) dX4_worthIn_27 ?_
          refine lv_topi (fun x_83 ex_83 => ?_)
          refine lv_goto (tgt := 32) hx hb dX4_worthIn_28 (by decide) ?_
          refine lv_iadd hx hb dX4_worthIn_32 ?_
          refine lv_topi (fun x_84 ex_84 => ?_)
          refine lv_istore_n (lv' := [(2, .int x_84), (0, .ref r), (1, .ref t), (3, .int v_10)]) hx hb dX4_worthIn_33 rfl hl (by decide) rfl (fun ls hl => ?_)
          obtain ⟨y_85, ey_85⟩ : ∃ y : Int32, y = v_10 + Int32.ofInt (1) := ⟨_, rfl⟩
          have b_y_85 := q_add (a := v_10.toInt) (b := 1) ey_85 rfl (by decide) (by omega) (by omega)
          refine lv_iinc (v := y_85) (lv' := [(3, .int y_85), (2, .int x_84), (0, .ref r), (1, .ref t)]) hx hb dX4_worthIn_34 hl (k := 3) rfl ey_85.symm (by decide) rfl (fun ls hl => ?_)
          refine lv_goto (tgt := 4) hx hb dX4_worthIn_37 (by decide) ?_
          have bq_86 : (0) ≤ y_85.toInt ∧ y_85.toInt ≤ 24 := ⟨by omega, by omega⟩
          exact ih4_74 x_84 y_85 H locs ls (by omega) bq_86 (hP.sub (ws' := [(r, .inr (4, [dv, .ref r_came, .ref r_doneOn, .ref r_left, .ref r_key, .ref r_heardOn, .ref r_standing, .ref r_pile, .ref r_size, .ref r_firstOf, .ref r_nextOf, .ref r_done, .int r_doneCount, .int r_today, .long r_lot])), (t, .inr (7, [.int t_days, .int t_post, .int t_law, .int t_seed, .int t_lines, .int t_people, .int t_letters, .int t_lawTold, .ref t_hours, .ref t_kind, .ref t_master, .ref t_from, .ref t_to, .ref t_on, .ref t_told, .ref t_after, .ref t_worth, .ref t_by])), (t_by, .inl (kt_by, 49, .inl ft_by)), (r_doneOn, .inl (kr_doneOn, 49, .inl fr_doneOn)), (t_worth, .inl (kt_worth, 49, .inl ft_worth))]) [1, 2, 3, 4, 0] rfl) (hD.sub (ws' := [(r, .inr (4, [dv, .ref r_came, .ref r_doneOn, .ref r_left, .ref r_key, .ref r_heardOn, .ref r_standing, .ref r_pile, .ref r_size, .ref r_firstOf, .ref r_nextOf, .ref r_done, .int r_doneCount, .int r_today, .long r_lot])), (t, .inr (7, [.int t_days, .int t_post, .int t_law, .int t_seed, .int t_lines, .int t_people, .int t_letters, .int t_lawTold, .ref t_hours, .ref t_kind, .ref t_master, .ref t_from, .ref t_to, .ref t_on, .ref t_told, .ref t_after, .ref t_worth, .ref t_by])), (t_by, .inl (kt_by, 49, .inl ft_by)), (r_doneOn, .inl (kr_doneOn, 49, .inl fr_doneOn)), (t_worth, .inl (kt_worth, 49, .inl ft_worth))]) [1, 2, 3, 4, 0] (by decide) rfl) hS (lv_sub hl [2, 3, 1, 0] rfl)
  exact hL4_74 _ 0 0 s.heap [] ls (Nat.lt_succ_self _) ⟨by decide, by decide⟩ hP hD hS (lv_sub hl [2, 3, 1, 0] rfl)
set_option maxHeartbeats 4000000 in
set_option maxRecDepth 100000 in
theorem r_lateIn (l : Launch) (dC : Nat → ClassId) (dI : Nat → Nat → Nat) (sz : Nat) (r : Nat) (t : Nat) (dv : Value) (r_came : Nat) (r_doneOn : Nat) (r_left : Nat) (r_key : Nat) (r_heardOn : Nat) (r_standing : Nat) (r_pile : Nat) (r_size : Nat) (r_firstOf : Nat) (r_nextOf : Nat) (r_done : Nat) (r_doneCount : Int32) (r_today : Int32) (r_lot : Int64) (t_days : Int32) (t_post : Int32) (t_law : Int32) (t_seed : Int32) (t_lines : Int32) (t_people : Int32) (t_letters : Int32) (t_lawTold : Int32) (t_hours : Nat) (t_kind : Nat) (t_master : Nat) (t_from : Nat) (t_to : Nat) (t_on : Nat) (t_told : Nat) (t_after : Nat) (t_worth : Nat) (t_by : Nat) (kt_by : ClassId) (ft_by : Nat → Int32) (kr_doneOn : ClassId) (fr_doneOn : Nat → Int32) (b_r_doneCount : (0) ≤ r_doneCount.toInt ∧ r_doneCount.toInt ≤ 49) (b_r_today : (0) ≤ r_today.toInt ∧ r_today.toInt ≤ 39) (b_t_days : (0) ≤ t_days.toInt ∧ t_days.toInt ≤ 40) (b_t_post : (0) ≤ t_post.toInt ∧ t_post.toInt ≤ 9) (b_t_law : (0) ≤ t_law.toInt ∧ t_law.toInt ≤ 3) (b_t_people : (0) ≤ t_people.toInt ∧ t_people.toInt ≤ 8) (b_t_letters : (0) ≤ t_letters.toInt ∧ t_letters.toInt ≤ 24) (b_t_lawTold : (0) ≤ t_lawTold.toInt ∧ t_lawTold.toInt ≤ 1) : Met l yX4_lateIn (.code yX4_lateIn cX4_lateIn 4 (some .int) :: ALLW) ({ frames := 2, cells := 0, slots := 0, locals := 44 }) (va_Pc [.ref r, .ref t] (fun U => U.heap.size = sz ∧ va_P (dC, dI) vwCl [(r, .inr (4, [dv, .ref r_came, .ref r_doneOn, .ref r_left, .ref r_key, .ref r_heardOn, .ref r_standing, .ref r_pile, .ref r_size, .ref r_firstOf, .ref r_nextOf, .ref r_done, .int r_doneCount, .int r_today, .long r_lot])), (t, .inr (7, [.int t_days, .int t_post, .int t_law, .int t_seed, .int t_lines, .int t_people, .int t_letters, .int t_lawTold, .ref t_hours, .ref t_kind, .ref t_master, .ref t_from, .ref t_to, .ref t_on, .ref t_told, .ref t_after, .ref t_worth, .ref t_by])), (t_by, .inl (kt_by, 49, .inl ft_by)), (r_doneOn, .inl (kr_doneOn, 49, .inl fr_doneOn))] U.heap ∧ va_K (dC, dI) vwCl [(kt_by, .int), (kr_doneOn, .int)] U ∧ va_D (fun _ => True) [(r, .inr (4, [dv, .ref r_came, .ref r_doneOn, .ref r_left, .ref r_key, .ref r_heardOn, .ref r_standing, .ref r_pile, .ref r_size, .ref r_firstOf, .ref r_nextOf, .ref r_done, .int r_doneCount, .int r_today, .long r_lot])), (t, .inr (7, [.int t_days, .int t_post, .int t_law, .int t_seed, .int t_lines, .int t_people, .int t_letters, .int t_lawTold, .ref t_hours, .ref t_kind, .ref t_master, .ref t_from, .ref t_to, .ref t_on, .ref t_told, .ref t_after, .ref t_worth, .ref t_by])), (t_by, .inl (kt_by, 49, .inl ft_by)), (r_doneOn, .inl (kr_doneOn, 49, .inl fr_doneOn))])) (va_Qi (fun (r u : Int32) => r = u) (fun (u : Int32) (t9 : State) => va_P (dC, dI) vwCl [(r, .inr (4, [dv, .ref r_came, .ref r_doneOn, .ref r_left, .ref r_key, .ref r_heardOn, .ref r_standing, .ref r_pile, .ref r_size, .ref r_firstOf, .ref r_nextOf, .ref r_done, .int r_doneCount, .int r_today, .long r_lot])), (t, .inr (7, [.int t_days, .int t_post, .int t_law, .int t_seed, .int t_lines, .int t_people, .int t_letters, .int t_lawTold, .ref t_hours, .ref t_kind, .ref t_master, .ref t_from, .ref t_to, .ref t_on, .ref t_told, .ref t_after, .ref t_worth, .ref t_by])), (t_by, .inl (kt_by, 49, .inl ft_by)), (r_doneOn, .inl (kr_doneOn, 49, .inl fr_doneOn))] t9.heap ∧ va_K (dC, dI) vwCl [] t9 ∧ va_D (va_A [(r, .inr (4, [dv, .ref r_came, .ref r_doneOn, .ref r_left, .ref r_key, .ref r_heardOn, .ref r_standing, .ref r_pile, .ref r_size, .ref r_firstOf, .ref r_nextOf, .ref r_done, .int r_doneCount, .int r_today, .long r_lot])), (t, .inr (7, [.int t_days, .int t_post, .int t_law, .int t_seed, .int t_lines, .int t_people, .int t_letters, .int t_lawTold, .ref t_hours, .ref t_kind, .ref t_master, .ref t_from, .ref t_to, .ref t_on, .ref t_told, .ref t_after, .ref t_worth, .ref t_by])), (t_by, .inl (kt_by, 49, .inl ft_by)), (r_doneOn, .inl (kr_doneOn, 49, .inl fr_doneOn))] sz) [(r, .inr (4, [dv, .ref r_came, .ref r_doneOn, .ref r_left, .ref r_key, .ref r_heardOn, .ref r_standing, .ref r_pile, .ref r_size, .ref r_firstOf, .ref r_nextOf, .ref r_done, .int r_doneCount, .int r_today, .long r_lot])), (t, .inr (7, [.int t_days, .int t_post, .int t_law, .int t_seed, .int t_lines, .int t_people, .int t_letters, .int t_lawTold, .ref t_hours, .ref t_kind, .ref t_master, .ref t_from, .ref t_to, .ref t_on, .ref t_told, .ref t_after, .ref t_worth, .ref t_by])), (t_by, .inl (kt_by, 49, .inl ft_by)), (r_doneOn, .inl (kr_doneOn, 49, .inl fr_doneOn))]) (va_A [(r, .inr (4, [dv, .ref r_came, .ref r_doneOn, .ref r_left, .ref r_key, .ref r_heardOn, .ref r_standing, .ref r_pile, .ref r_size, .ref r_firstOf, .ref r_nextOf, .ref r_done, .int r_doneCount, .int r_today, .long r_lot])), (t, .inr (7, [.int t_days, .int t_post, .int t_law, .int t_seed, .int t_lines, .int t_people, .int t_letters, .int t_lawTold, .ref t_hours, .ref t_kind, .ref t_master, .ref t_from, .ref t_to, .ref t_on, .ref t_told, .ref t_after, .ref t_worth, .ref t_by])), (t_by, .inl (kt_by, 49, .inl ft_by)), (r_doneOn, .inl (kr_doneOn, 49, .inl fr_doneOn))] sz)) 0 0 (va_A [(r, .inr (4, [dv, .ref r_came, .ref r_doneOn, .ref r_left, .ref r_key, .ref r_heardOn, .ref r_standing, .ref r_pile, .ref r_size, .ref r_firstOf, .ref r_nextOf, .ref r_done, .int r_doneCount, .int r_today, .long r_lot])), (t, .inr (7, [.int t_days, .int t_post, .int t_law, .int t_seed, .int t_lines, .int t_people, .int t_letters, .int t_lawTold, .ref t_hours, .ref t_kind, .ref t_master, .ref t_from, .ref t_to, .ref t_on, .ref t_told, .ref t_after, .ref t_worth, .ref t_by])), (t_by, .inl (kt_by, 49, .inl ft_by)), (r_doneOn, .inl (kr_doneOn, 49, .inl fr_doneOn))] sz) := by
  refine Met.ofW (cc := cX4_lateIn) (maxL := 4) (ret := (some .int)) (by decide) rfl ?_
  intro pr_ en_ s me_ args below meth c s₁ B hml hv
  obtain ⟨rfl, hsz, hP, hK, hD0⟩ := hv
  have hx := B.exec
  have hb := B.bytes
  have hr := B.returns
  have hts0 := atoms_spec (ws := (.code yX4_lateIn cX4_lateIn 4 (some .int) :: ALLW)) B.pre
  have hts := fun (w : Cond) (h : w ∈ ALLW) => hts0 w (List.mem_cons_of_mem _ h)
  have hown : s.vm.findClass RX4 = some me_.cls := findClass_of_methodNamed B.named
  have hlocks := B.notSynchronized
  subst hsz
  have hD := hD0.self (sz := s.heap.size)
  generalize hAe : va_A [(r, .inr (4, [dv, .ref r_came, .ref r_doneOn, .ref r_left, .ref r_key, .ref r_heardOn, .ref r_standing, .ref r_pile, .ref r_size, .ref r_firstOf, .ref r_nextOf, .ref r_done, .int r_doneCount, .int r_today, .long r_lot])), (t, .inr (7, [.int t_days, .int t_post, .int t_law, .int t_seed, .int t_lines, .int t_people, .int t_letters, .int t_lawTold, .ref t_hours, .ref t_kind, .ref t_master, .ref t_from, .ref t_to, .ref t_on, .ref t_told, .ref t_after, .ref t_worth, .ref t_by])), (t_by, .inl (kt_by, 49, .inl ft_by)), (r_doneOn, .inl (kr_doneOn, 49, .inl fr_doneOn))] s.heap.size = A at hD ⊢
  have hA : ∀ q : Nat, s.heap.size ≤ q → A q := fun q h => by rw [← hAe]; exact Or.inr h
  have hS : va_S A s.heap s.heap [] := va_S.rf
  have hP : va_P (dC, dI) vwCl [(r, .inr (4, [dv, .ref r_came, .ref r_doneOn, .ref r_left, .ref r_key, .ref r_heardOn, .ref r_standing, .ref r_pile, .ref r_size, .ref r_firstOf, .ref r_nextOf, .ref r_done, .int r_doneCount, .int r_today, .long r_lot])), (t, .inr (7, [.int t_days, .int t_post, .int t_law, .int t_seed, .int t_lines, .int t_people, .int t_letters, .int t_lawTold, .ref t_hours, .ref t_kind, .ref t_master, .ref t_from, .ref t_to, .ref t_on, .ref t_told, .ref t_after, .ref t_worth, .ref t_by])), (t_by, .inl (kt_by, 49, .inl ft_by)), (r_doneOn, .inl (kr_doneOn, 49, .inl fr_doneOn))] s.heap := hP
  have hl := lv_entry ([.ref r, .ref t]) (n := 4) (Nat.le_of_ble_eq_true rfl)
  rw [lg_entry_eq]
  generalize (lg_sl ([.ref r, .ref t]) ++ List.replicate (4 - (lg_sl ([.ref r, .ref t])).length) Slot.unset).toArray = ls at hl ⊢
  have hl : lv_has ls 4 [(0, .ref r), (1, .ref t)] := hl
  refine gQ (fun Q eQ => ?_)
  replace b_r_doneCount : hid ((0) ≤ r_doneCount.toInt ∧ r_doneCount.toInt ≤ 49) := b_r_doneCount
  replace b_r_today : hid ((0) ≤ r_today.toInt ∧ r_today.toInt ≤ 39) := b_r_today
  replace b_t_days : hid ((0) ≤ t_days.toInt ∧ t_days.toInt ≤ 40) := b_t_days
  replace b_t_post : hid ((0) ≤ t_post.toInt ∧ t_post.toInt ≤ 9) := b_t_post
  replace b_t_law : hid ((0) ≤ t_law.toInt ∧ t_law.toInt ≤ 3) := b_t_law
  replace b_t_people : hid ((0) ≤ t_people.toInt ∧ t_people.toInt ≤ 8) := b_t_people
  replace b_t_letters : hid ((0) ≤ t_letters.toInt ∧ t_letters.toInt ≤ 24) := b_t_letters
  replace b_t_lawTold : hid ((0) ≤ t_lawTold.toInt ∧ t_lawTold.toInt ≤ 1) := b_t_lawTold
  refine lv_iconst (v := 0) hx hb dX4_lateIn_0 (by decide) ?_
  refine lv_istore_n (lv' := [(2, .int 0), (0, .ref r), (1, .ref t)]) hx hb dX4_lateIn_1 rfl hl (by decide) rfl (fun ls hl => ?_)
  refine lv_iconst (v := 0) hx hb dX4_lateIn_2 (by decide) ?_
  refine lv_istore_n (lv' := [(3, .int 0), (2, .int 0), (0, .ref r), (1, .ref t)]) hx hb dX4_lateIn_3 rfl hl (by decide) rfl (fun ls hl => ?_)
  have hL4_133 : ∀ (k : Nat) (v_6 : Int32) (v_7 : Int32) (H : Heap) (locs : List Loc) (ls : Array Slot), (24 - v_7.toInt).toNat < k → ((0) ≤ v_7.toInt ∧ v_7.toInt ≤ 24) → va_P (dC, dI) vwCl [(r, .inr (4, [dv, .ref r_came, .ref r_doneOn, .ref r_left, .ref r_key, .ref r_heardOn, .ref r_standing, .ref r_pile, .ref r_size, .ref r_firstOf, .ref r_nextOf, .ref r_done, .int r_doneCount, .int r_today, .long r_lot])), (t, .inr (7, [.int t_days, .int t_post, .int t_law, .int t_seed, .int t_lines, .int t_people, .int t_letters, .int t_lawTold, .ref t_hours, .ref t_kind, .ref t_master, .ref t_from, .ref t_to, .ref t_on, .ref t_told, .ref t_after, .ref t_worth, .ref t_by])), (t_by, .inl (kt_by, 49, .inl ft_by)), (r_doneOn, .inl (kr_doneOn, 49, .inl fr_doneOn))] H → va_D A [(r, .inr (4, [dv, .ref r_came, .ref r_doneOn, .ref r_left, .ref r_key, .ref r_heardOn, .ref r_standing, .ref r_pile, .ref r_size, .ref r_firstOf, .ref r_nextOf, .ref r_done, .int r_doneCount, .int r_today, .long r_lot])), (t, .inr (7, [.int t_days, .int t_post, .int t_law, .int t_seed, .int t_lines, .int t_people, .int t_letters, .int t_lawTold, .ref t_hours, .ref t_kind, .ref t_master, .ref t_from, .ref t_to, .ref t_on, .ref t_told, .ref t_after, .ref t_worth, .ref t_by])), (t_by, .inl (kt_by, 49, .inl ft_by)), (r_doneOn, .inl (kr_doneOn, 49, .inl fr_doneOn))] → va_S A s.heap H locs → lv_has ls 4 [(0, .ref r), (1, .ref t), (2, .int v_6), (3, .int v_7)] → W pr_ l en_ ({ frames := 2, cells := 0, slots := 0, locals := 44 }) s me_ ([.ref r, .ref t]).toArray below meth c H locs 0 0 Q (F0 me_ 4 ls []) := by
    intro k
    induction k with
    | zero => intro v_6 v_7 H locs ls hmu; exact absurd hmu (Nat.not_lt_zero _)
    | succ k ih4_133 =>
      intro v_6 v_7 H locs ls hmu4 b_v_7 hP hD hS hl
      refine lv_iload_n hx hb dX4_lateIn_4 rfl (lv_at hl 3 rfl) ?_
      refine lv_aload_n hx hb dX4_lateIn_5 rfl (lv_at hl 1 rfl) ?_
      refine va_get (D := (dC, dI)) (ci := 7) (v := .int t_letters) (C := RX7) (T := TX7) (N := 18) hx hb hts inA7 hown hK hP 1 rfl rfl 6 (by decide) (hts _ w_596) (fun _ h9 => h9) rfl dX4_lateIn_6 ?_
      have b_t_letters : (0) ≤ t_letters.toInt ∧ t_letters.toInt ≤ 24 := b_t_letters
      refine lv_icmp_ge (tgt := 35) hx hb dX4_lateIn_9 (by decide) (fun c_134 => ?_) (fun c_134 => ?_)
      · have ec_134 := q_ge (a := v_7.toInt) (b := t_letters.toInt) rfl rfl c_134
        refine lv_iload_n hx hb dX4_lateIn_35 rfl (lv_at hl 2 rfl) ?_
        have hP9 := hP.sub (ws' := [(r, .inr (4, [dv, .ref r_came, .ref r_doneOn, .ref r_left, .ref r_key, .ref r_heardOn, .ref r_standing, .ref r_pile, .ref r_size, .ref r_firstOf, .ref r_nextOf, .ref r_done, .int r_doneCount, .int r_today, .long r_lot])), (t, .inr (7, [.int t_days, .int t_post, .int t_law, .int t_seed, .int t_lines, .int t_people, .int t_letters, .int t_lawTold, .ref t_hours, .ref t_kind, .ref t_master, .ref t_from, .ref t_to, .ref t_on, .ref t_told, .ref t_after, .ref t_worth, .ref t_by])), (t_by, .inl (kt_by, 49, .inl ft_by)), (r_doneOn, .inl (kr_doneOn, 49, .inl fr_doneOn))]) [0, 1, 2, 3] rfl
        have hD9 := hD.sub (ws' := [(r, .inr (4, [dv, .ref r_came, .ref r_doneOn, .ref r_left, .ref r_key, .ref r_heardOn, .ref r_standing, .ref r_pile, .ref r_size, .ref r_firstOf, .ref r_nextOf, .ref r_done, .int r_doneCount, .int r_today, .long r_lot])), (t, .inr (7, [.int t_days, .int t_post, .int t_law, .int t_seed, .int t_lines, .int t_people, .int t_letters, .int t_lawTold, .ref t_hours, .ref t_kind, .ref t_master, .ref t_from, .ref t_to, .ref t_on, .ref t_told, .ref t_after, .ref t_worth, .ref t_by])), (t_by, .inl (kt_by, 49, .inl ft_by)), (r_doneOn, .inl (kr_doneOn, 49, .inl fr_doneOn))]) [0, 1, 2, 3] (by decide) rfl
        have hK9 := hK.sub (tys' := []) [] rfl
        refine gQe eQ ?_
        exact W.iret (v := v_6) hx hb hr (fun t9 ht hW => ⟨⟨v_6, v_6, rfl, rfl, by rw [ht]; exact hP9, va_K.moved hW.alike hK9, hD9⟩, hS.F ht⟩) hS.2.2 dX4_lateIn_36
      · have ec_134 := q_nge (a := v_7.toInt) (b := t_letters.toInt) rfl rfl c_134
        refine lv_iload_n hx hb dX4_lateIn_12 rfl (lv_at hl 2 rfl) ?_
        refine lv_aload_n hx hb dX4_lateIn_13 rfl (lv_at hl 0 rfl) ?_
        refine lv_aload_n hx hb dX4_lateIn_14 rfl (lv_at hl 1 rfl) ?_
        refine lv_iload_n hx hb dX4_lateIn_15 rfl (lv_at hl 3 rfl) ?_
        have bq_135 : (0) ≤ v_7.toInt ∧ v_7.toInt ≤ 48 := ⟨by omega, by omega⟩
        have hPc := hP.sub (ws' := [(r, .inr (4, [dv, .ref r_came, .ref r_doneOn, .ref r_left, .ref r_key, .ref r_heardOn, .ref r_standing, .ref r_pile, .ref r_size, .ref r_firstOf, .ref r_nextOf, .ref r_done, .int r_doneCount, .int r_today, .long r_lot])), (t, .inr (7, [.int t_days, .int t_post, .int t_law, .int t_seed, .int t_lines, .int t_people, .int t_letters, .int t_lawTold, .ref t_hours, .ref t_kind, .ref t_master, .ref t_from, .ref t_to, .ref t_on, .ref t_told, .ref t_after, .ref t_worth, .ref t_by])), (t_by, .inl (kt_by, 49, .inl ft_by)), (r_doneOn, .inl (kr_doneOn, 49, .inl fr_doneOn))]) [0, 1, 2, 3] rfl
        have hDc := hD.sub (ws' := [(r, .inr (4, [dv, .ref r_came, .ref r_doneOn, .ref r_left, .ref r_key, .ref r_heardOn, .ref r_standing, .ref r_pile, .ref r_size, .ref r_firstOf, .ref r_nextOf, .ref r_done, .int r_doneCount, .int r_today, .long r_lot])), (t, .inr (7, [.int t_days, .int t_post, .int t_law, .int t_seed, .int t_lines, .int t_people, .int t_letters, .int t_lawTold, .ref t_hours, .ref t_kind, .ref t_master, .ref t_from, .ref t_to, .ref t_on, .ref t_told, .ref t_after, .ref t_worth, .ref t_by])), (t_by, .inl (kt_by, 49, .inl ft_by)), (r_doneOn, .inl (kr_doneOn, 49, .inl fr_doneOn))]) [0, 1, 2, 3] (by decide) rfl
        have hKc := hK.sub (tys' := [(kt_by, .int), (kr_doneOn, .int)]) [0, 1] rfl
        have hFc := va_free (wc := [(r, .inr (4, [dv, .ref r_came, .ref r_doneOn, .ref r_left, .ref r_key, .ref r_heardOn, .ref r_standing, .ref r_pile, .ref r_size, .ref r_firstOf, .ref r_nextOf, .ref r_done, .int r_doneCount, .int r_today, .long r_lot])), (t, .inr (7, [.int t_days, .int t_post, .int t_law, .int t_seed, .int t_lines, .int t_people, .int t_letters, .int t_lawTold, .ref t_hours, .ref t_kind, .ref t_master, .ref t_from, .ref t_to, .ref t_on, .ref t_told, .ref t_after, .ref t_worth, .ref t_by])), (t_by, .inl (kt_by, 49, .inl ft_by)), (r_doneOn, .inl (kr_doneOn, 49, .inl fr_doneOn))]) hD hS hA [0, 1, 2, 3] rfl
        refine va_calli (va_runV (As := [.ref t, .int v_7]) (rest := [.int v_6]) ⟨hx, hb, hml, hown, hts⟩ (r_inTime l dC dI H.size r t v_7 dv r_came r_doneOn r_left r_key r_heardOn r_standing r_pile r_size r_firstOf r_nextOf r_done r_doneCount r_today r_lot t_days t_post t_law t_seed t_lines t_people t_letters t_lawTold t_hours t_kind t_master t_from t_to t_on t_told t_after t_worth t_by kt_by ft_by kr_doneOn fr_doneOn bq_135 b_r_doneCount b_r_today b_t_days b_t_post b_t_law b_t_people b_t_letters b_t_lawTold) (cwV 2 hts (goodV w_969 w_970 w_971 w_36 w_972) rfl rfl rfl hdV_X4_inTime ⟨Nat.le_of_ble_eq_true rfl, Nat.le_of_ble_eq_true rfl⟩) ⟨fun a U g mk q => by obtain ⟨q0, q1, qP, qK, qD⟩ := q; exact ⟨q0, q1, qP, va_K.moved (u := U) (U := U.calling g mk a) (Vm.Alike.refl U.vm) qK, qD⟩, va_recv hKc hPc (ci := 4) (q0 := 0) rfl rfl, fun U hU hW => ⟨rfl, by rw [hU], by rw [hU]; exact hPc, va_K.moved hW.alike hKc, hDc.weaken (fun _ _ _ _ => trivial)⟩⟩ rfl rfl hl.1 rfl (lv_room (Nat.le_of_ble_eq_true rfl)) dX4_lateIn_16 ⟨Nat.le_of_ble_eq_true rfl, Nat.le_of_ble_eq_true rfl⟩) hS (fun q _ h => hFc q h) hFc (fun r_136 u9 t9 H1 locs ht hvm hw hB hz1 hk1 hS => ?_)
        subst hw
        obtain ⟨b_r_136, hP1, hK1, hD1⟩ := hB
        rw [ht] at hP1
        have hK1 := va_K.moved hvm.symm hK1
        obtain ⟨hP, hD⟩ := va_join (wr := []) (w1 := [(r, .inr (4, [dv, .ref r_came, .ref r_doneOn, .ref r_left, .ref r_key, .ref r_heardOn, .ref r_standing, .ref r_pile, .ref r_size, .ref r_firstOf, .ref r_nextOf, .ref r_done, .int r_doneCount, .int r_today, .long r_lot])), (t, .inr (7, [.int t_days, .int t_post, .int t_law, .int t_seed, .int t_lines, .int t_people, .int t_letters, .int t_lawTold, .ref t_hours, .ref t_kind, .ref t_master, .ref t_from, .ref t_to, .ref t_on, .ref t_told, .ref t_after, .ref t_worth, .ref t_by])), (t_by, .inl (kt_by, 49, .inl ft_by)), (r_doneOn, .inl (kr_doneOn, 49, .inl fr_doneOn))]) hP hD [0, 1, 2, 3] [] rfl rfl (by decide) (by decide) hk1 hFc hP1 hD1
        clear hPc hDc hKc hFc hz1 hk1 hP1 hD1 hK1
        generalize H1 = H at hP hS ⊢
        have hP : va_P (dC, dI) vwCl [(r, .inr (4, [dv, .ref r_came, .ref r_doneOn, .ref r_left, .ref r_key, .ref r_heardOn, .ref r_standing, .ref r_pile, .ref r_size, .ref r_firstOf, .ref r_nextOf, .ref r_done, .int r_doneCount, .int r_today, .long r_lot])), (t, .inr (7, [.int t_days, .int t_post, .int t_law, .int t_seed, .int t_lines, .int t_people, .int t_letters, .int t_lawTold, .ref t_hours, .ref t_kind, .ref t_master, .ref t_from, .ref t_to, .ref t_on, .ref t_told, .ref t_after, .ref t_worth, .ref t_by])), (t_by, .inl (kt_by, 49, .inl ft_by)), (r_doneOn, .inl (kr_doneOn, 49, .inl fr_doneOn))] H := hP
        have hD : va_D A [(r, .inr (4, [dv, .ref r_came, .ref r_doneOn, .ref r_left, .ref r_key, .ref r_heardOn, .ref r_standing, .ref r_pile, .ref r_size, .ref r_firstOf, .ref r_nextOf, .ref r_done, .int r_doneCount, .int r_today, .long r_lot])), (t, .inr (7, [.int t_days, .int t_post, .int t_law, .int t_seed, .int t_lines, .int t_people, .int t_letters, .int t_lawTold, .ref t_hours, .ref t_kind, .ref t_master, .ref t_from, .ref t_to, .ref t_on, .ref t_told, .ref t_after, .ref t_worth, .ref t_by])), (t_by, .inl (kt_by, 49, .inl ft_by)), (r_doneOn, .inl (kr_doneOn, 49, .inl fr_doneOn))] := hD
        refine lv_if_eq (tgt := 26) hx hb dX4_lateIn_19 (by decide) (fun c_137 => ?_) (fun c_137 => ?_)
        · have ec_137 := q_eq (a := r_136.toInt) (b := 0) rfl (by decide) c_137
          refine lv_iconst (v := 1) hx hb dX4_lateIn_26 (by decide) ?_
          refine lv_iadd hx hb dX4_lateIn_27 ?_
          refine lv_topi (fun x_138 ex_138 => ?_)
          refine lv_istore_n (lv' := [(2, .int x_138), (0, .ref r), (1, .ref t), (3, .int v_7)]) hx hb dX4_lateIn_28 rfl hl (by decide) rfl (fun ls hl => ?_)
          obtain ⟨y_139, ey_139⟩ : ∃ y : Int32, y = v_7 + Int32.ofInt (1) := ⟨_, rfl⟩
          have b_y_139 := q_add (a := v_7.toInt) (b := 1) ey_139 rfl (by decide) (by omega) (by omega)
          refine lv_iinc (v := y_139) (lv' := [(3, .int y_139), (2, .int x_138), (0, .ref r), (1, .ref t)]) hx hb dX4_lateIn_29 hl (k := 3) rfl ey_139.symm (by decide) rfl (fun ls hl => ?_)
          refine lv_goto (tgt := 4) hx hb dX4_lateIn_32 (by decide) ?_
          have bq_140 : (0) ≤ y_139.toInt ∧ y_139.toInt ≤ 24 := ⟨by omega, by omega⟩
          exact ih4_133 x_138 y_139 H locs ls (by omega) bq_140 hP hD hS (lv_sub hl [2, 3, 1, 0] rfl)
        · have ec_137 := q_neq (a := r_136.toInt) (b := 0) rfl (by decide) c_137
          refine lv_iconst (v := 0) hx hb dX4_lateIn_22 (by decide) ?_
          refine lv_goto (tgt := 27) hx hb dX4_lateIn_23 (by decide) ?_
          refine lv_iadd hx hb dX4_lateIn_27 ?_
          refine lv_topi (fun x_141 ex_141 => ?_)
          have rg_142 := q_rng v_6
          have b_x_141 := q_add (a := v_6.toInt) (b := 0) ex_141 rfl (by decide) (by omega) (by omega)
          refine lv_istore_n (lv' := [(2, .int x_141), (0, .ref r), (1, .ref t), (3, .int v_7)]) hx hb dX4_lateIn_28 rfl hl (by decide) rfl (fun ls hl => ?_)
          obtain ⟨y_143, ey_143⟩ : ∃ y : Int32, y = v_7 + Int32.ofInt (1) := ⟨_, rfl⟩
          have b_y_143 := q_add (a := v_7.toInt) (b := 1) ey_143 rfl (by decide) (by omega) (by omega)
          refine lv_iinc (v := y_143) (lv' := [(3, .int y_143), (2, .int x_141), (0, .ref r), (1, .ref t)]) hx hb dX4_lateIn_29 hl (k := 3) rfl ey_143.symm (by decide) rfl (fun ls hl => ?_)
          refine lv_goto (tgt := 4) hx hb dX4_lateIn_32 (by decide) ?_
          have bq_144 : (0) ≤ y_143.toInt ∧ y_143.toInt ≤ 24 := ⟨by omega, by omega⟩
          exact ih4_133 x_141 y_143 H locs ls (by omega) bq_144 hP hD hS (lv_sub hl [2, 3, 1, 0] rfl)
  exact hL4_133 _ 0 0 s.heap [] ls (Nat.lt_succ_self _) ⟨by decide, by decide⟩ hP hD hS (lv_sub hl [2, 3, 1, 0] rfl)
set_option maxHeartbeats 4000000 in
set_option maxRecDepth 100000 in
theorem r_answeredIn (l : Launch) (dC : Nat → ClassId) (dI : Nat → Nat → Nat) (sz : Nat) (r : Nat) (t : Nat) (dv : Value) (r_came : Nat) (r_doneOn : Nat) (r_left : Nat) (r_key : Nat) (r_heardOn : Nat) (r_standing : Nat) (r_pile : Nat) (r_size : Nat) (r_firstOf : Nat) (r_nextOf : Nat) (r_done : Nat) (r_doneCount : Int32) (r_today : Int32) (r_lot : Int64) (t_days : Int32) (t_post : Int32) (t_law : Int32) (t_seed : Int32) (t_lines : Int32) (t_people : Int32) (t_letters : Int32) (t_lawTold : Int32) (t_hours : Nat) (t_kind : Nat) (t_master : Nat) (t_from : Nat) (t_to : Nat) (t_on : Nat) (t_told : Nat) (t_after : Nat) (t_worth : Nat) (t_by : Nat) (kr_doneOn : ClassId) (fr_doneOn : Nat → Int32) (b_r_doneCount : (0) ≤ r_doneCount.toInt ∧ r_doneCount.toInt ≤ 49) (b_r_today : (0) ≤ r_today.toInt ∧ r_today.toInt ≤ 39) (b_t_days : (0) ≤ t_days.toInt ∧ t_days.toInt ≤ 40) (b_t_post : (0) ≤ t_post.toInt ∧ t_post.toInt ≤ 9) (b_t_law : (0) ≤ t_law.toInt ∧ t_law.toInt ≤ 3) (b_t_people : (0) ≤ t_people.toInt ∧ t_people.toInt ≤ 8) (b_t_letters : (0) ≤ t_letters.toInt ∧ t_letters.toInt ≤ 24) (b_t_lawTold : (0) ≤ t_lawTold.toInt ∧ t_lawTold.toInt ≤ 1) : Met l yX4_answeredIn (.code yX4_answeredIn cX4_answeredIn 4 (some .int) :: ALLW) ({ frames := 0, cells := 0, slots := 0, locals := 0 }) (va_Pc [.ref r, .ref t] (fun U => U.heap.size = sz ∧ va_P (dC, dI) vwCl [(r, .inr (4, [dv, .ref r_came, .ref r_doneOn, .ref r_left, .ref r_key, .ref r_heardOn, .ref r_standing, .ref r_pile, .ref r_size, .ref r_firstOf, .ref r_nextOf, .ref r_done, .int r_doneCount, .int r_today, .long r_lot])), (t, .inr (7, [.int t_days, .int t_post, .int t_law, .int t_seed, .int t_lines, .int t_people, .int t_letters, .int t_lawTold, .ref t_hours, .ref t_kind, .ref t_master, .ref t_from, .ref t_to, .ref t_on, .ref t_told, .ref t_after, .ref t_worth, .ref t_by])), (r_doneOn, .inl (kr_doneOn, 49, .inl fr_doneOn))] U.heap ∧ va_K (dC, dI) vwCl [(kr_doneOn, .int)] U ∧ va_D (fun _ => True) [(r, .inr (4, [dv, .ref r_came, .ref r_doneOn, .ref r_left, .ref r_key, .ref r_heardOn, .ref r_standing, .ref r_pile, .ref r_size, .ref r_firstOf, .ref r_nextOf, .ref r_done, .int r_doneCount, .int r_today, .long r_lot])), (t, .inr (7, [.int t_days, .int t_post, .int t_law, .int t_seed, .int t_lines, .int t_people, .int t_letters, .int t_lawTold, .ref t_hours, .ref t_kind, .ref t_master, .ref t_from, .ref t_to, .ref t_on, .ref t_told, .ref t_after, .ref t_worth, .ref t_by])), (r_doneOn, .inl (kr_doneOn, 49, .inl fr_doneOn))])) (va_Qi (fun (r u : Int32) => r = u) (fun (u : Int32) (t9 : State) => va_P (dC, dI) vwCl [(r, .inr (4, [dv, .ref r_came, .ref r_doneOn, .ref r_left, .ref r_key, .ref r_heardOn, .ref r_standing, .ref r_pile, .ref r_size, .ref r_firstOf, .ref r_nextOf, .ref r_done, .int r_doneCount, .int r_today, .long r_lot])), (t, .inr (7, [.int t_days, .int t_post, .int t_law, .int t_seed, .int t_lines, .int t_people, .int t_letters, .int t_lawTold, .ref t_hours, .ref t_kind, .ref t_master, .ref t_from, .ref t_to, .ref t_on, .ref t_told, .ref t_after, .ref t_worth, .ref t_by])), (r_doneOn, .inl (kr_doneOn, 49, .inl fr_doneOn))] t9.heap ∧ va_K (dC, dI) vwCl [] t9 ∧ va_D (va_A [(r, .inr (4, [dv, .ref r_came, .ref r_doneOn, .ref r_left, .ref r_key, .ref r_heardOn, .ref r_standing, .ref r_pile, .ref r_size, .ref r_firstOf, .ref r_nextOf, .ref r_done, .int r_doneCount, .int r_today, .long r_lot])), (t, .inr (7, [.int t_days, .int t_post, .int t_law, .int t_seed, .int t_lines, .int t_people, .int t_letters, .int t_lawTold, .ref t_hours, .ref t_kind, .ref t_master, .ref t_from, .ref t_to, .ref t_on, .ref t_told, .ref t_after, .ref t_worth, .ref t_by])), (r_doneOn, .inl (kr_doneOn, 49, .inl fr_doneOn))] sz) [(r, .inr (4, [dv, .ref r_came, .ref r_doneOn, .ref r_left, .ref r_key, .ref r_heardOn, .ref r_standing, .ref r_pile, .ref r_size, .ref r_firstOf, .ref r_nextOf, .ref r_done, .int r_doneCount, .int r_today, .long r_lot])), (t, .inr (7, [.int t_days, .int t_post, .int t_law, .int t_seed, .int t_lines, .int t_people, .int t_letters, .int t_lawTold, .ref t_hours, .ref t_kind, .ref t_master, .ref t_from, .ref t_to, .ref t_on, .ref t_told, .ref t_after, .ref t_worth, .ref t_by])), (r_doneOn, .inl (kr_doneOn, 49, .inl fr_doneOn))]) (va_A [(r, .inr (4, [dv, .ref r_came, .ref r_doneOn, .ref r_left, .ref r_key, .ref r_heardOn, .ref r_standing, .ref r_pile, .ref r_size, .ref r_firstOf, .ref r_nextOf, .ref r_done, .int r_doneCount, .int r_today, .long r_lot])), (t, .inr (7, [.int t_days, .int t_post, .int t_law, .int t_seed, .int t_lines, .int t_people, .int t_letters, .int t_lawTold, .ref t_hours, .ref t_kind, .ref t_master, .ref t_from, .ref t_to, .ref t_on, .ref t_told, .ref t_after, .ref t_worth, .ref t_by])), (r_doneOn, .inl (kr_doneOn, 49, .inl fr_doneOn))] sz)) 0 0 (va_A [(r, .inr (4, [dv, .ref r_came, .ref r_doneOn, .ref r_left, .ref r_key, .ref r_heardOn, .ref r_standing, .ref r_pile, .ref r_size, .ref r_firstOf, .ref r_nextOf, .ref r_done, .int r_doneCount, .int r_today, .long r_lot])), (t, .inr (7, [.int t_days, .int t_post, .int t_law, .int t_seed, .int t_lines, .int t_people, .int t_letters, .int t_lawTold, .ref t_hours, .ref t_kind, .ref t_master, .ref t_from, .ref t_to, .ref t_on, .ref t_told, .ref t_after, .ref t_worth, .ref t_by])), (r_doneOn, .inl (kr_doneOn, 49, .inl fr_doneOn))] sz) := by
  refine Met.ofW (cc := cX4_answeredIn) (maxL := 4) (ret := (some .int)) (by decide) rfl ?_
  intro pr_ en_ s me_ args below meth c s₁ B hml hv
  obtain ⟨rfl, hsz, hP, hK, hD0⟩ := hv
  have hx := B.exec
  have hb := B.bytes
  have hr := B.returns
  have hts0 := atoms_spec (ws := (.code yX4_answeredIn cX4_answeredIn 4 (some .int) :: ALLW)) B.pre
  have hts := fun (w : Cond) (h : w ∈ ALLW) => hts0 w (List.mem_cons_of_mem _ h)
  have hown : s.vm.findClass RX4 = some me_.cls := findClass_of_methodNamed B.named
  have hlocks := B.notSynchronized
  subst hsz
  have hD := hD0.self (sz := s.heap.size)
  generalize hAe : va_A [(r, .inr (4, [dv, .ref r_came, .ref r_doneOn, .ref r_left, .ref r_key, .ref r_heardOn, .ref r_standing, .ref r_pile, .ref r_size, .ref r_firstOf, .ref r_nextOf, .ref r_done, .int r_doneCount, .int r_today, .long r_lot])), (t, .inr (7, [.int t_days, .int t_post, .int t_law, .int t_seed, .int t_lines, .int t_people, .int t_letters, .int t_lawTold, .ref t_hours, .ref t_kind, .ref t_master, .ref t_from, .ref t_to, .ref t_on, .ref t_told, .ref t_after, .ref t_worth, .ref t_by])), (r_doneOn, .inl (kr_doneOn, 49, .inl fr_doneOn))] s.heap.size = A at hD ⊢
  have hA : ∀ q : Nat, s.heap.size ≤ q → A q := fun q h => by rw [← hAe]; exact Or.inr h
  have hS : va_S A s.heap s.heap [] := va_S.rf
  have hP : va_P (dC, dI) vwCl [(r, .inr (4, [dv, .ref r_came, .ref r_doneOn, .ref r_left, .ref r_key, .ref r_heardOn, .ref r_standing, .ref r_pile, .ref r_size, .ref r_firstOf, .ref r_nextOf, .ref r_done, .int r_doneCount, .int r_today, .long r_lot])), (t, .inr (7, [.int t_days, .int t_post, .int t_law, .int t_seed, .int t_lines, .int t_people, .int t_letters, .int t_lawTold, .ref t_hours, .ref t_kind, .ref t_master, .ref t_from, .ref t_to, .ref t_on, .ref t_told, .ref t_after, .ref t_worth, .ref t_by])), (r_doneOn, .inl (kr_doneOn, 49, .inl fr_doneOn))] s.heap := hP
  have hl := lv_entry ([.ref r, .ref t]) (n := 4) (Nat.le_of_ble_eq_true rfl)
  rw [lg_entry_eq]
  generalize (lg_sl ([.ref r, .ref t]) ++ List.replicate (4 - (lg_sl ([.ref r, .ref t])).length) Slot.unset).toArray = ls at hl ⊢
  have hl : lv_has ls 4 [(0, .ref r), (1, .ref t)] := hl
  refine gQ (fun Q eQ => ?_)
  replace b_r_doneCount : hid ((0) ≤ r_doneCount.toInt ∧ r_doneCount.toInt ≤ 49) := b_r_doneCount
  replace b_r_today : hid ((0) ≤ r_today.toInt ∧ r_today.toInt ≤ 39) := b_r_today
  replace b_t_days : hid ((0) ≤ t_days.toInt ∧ t_days.toInt ≤ 40) := b_t_days
  replace b_t_post : hid ((0) ≤ t_post.toInt ∧ t_post.toInt ≤ 9) := b_t_post
  replace b_t_law : hid ((0) ≤ t_law.toInt ∧ t_law.toInt ≤ 3) := b_t_law
  replace b_t_people : hid ((0) ≤ t_people.toInt ∧ t_people.toInt ≤ 8) := b_t_people
  replace b_t_letters : hid ((0) ≤ t_letters.toInt ∧ t_letters.toInt ≤ 24) := b_t_letters
  replace b_t_lawTold : hid ((0) ≤ t_lawTold.toInt ∧ t_lawTold.toInt ≤ 1) := b_t_lawTold
  refine lv_iconst (v := 0) hx hb dX4_answeredIn_0 (by decide) ?_
  refine lv_istore_n (lv' := [(2, .int 0), (0, .ref r), (1, .ref t)]) hx hb dX4_answeredIn_1 rfl hl (by decide) rfl (fun ls hl => ?_)
  refine lv_iconst (v := 0) hx hb dX4_answeredIn_2 (by decide) ?_
  refine lv_istore_n (lv' := [(3, .int 0), (2, .int 0), (0, .ref r), (1, .ref t)]) hx hb dX4_answeredIn_3 rfl hl (by decide) rfl (fun ls hl => ?_)
  have hL4_155 : ∀ (k : Nat) (v_7 : Int32) (v_8 : Int32) (H : Heap) (locs : List Loc) (ls : Array Slot), (24 - v_8.toInt).toNat < k → ((0) ≤ v_8.toInt ∧ v_8.toInt ≤ 24) → va_P (dC, dI) vwCl [(r, .inr (4, [dv, .ref r_came, .ref r_doneOn, .ref r_left, .ref r_key, .ref r_heardOn, .ref r_standing, .ref r_pile, .ref r_size, .ref r_firstOf, .ref r_nextOf, .ref r_done, .int r_doneCount, .int r_today, .long r_lot])), (t, .inr (7, [.int t_days, .int t_post, .int t_law, .int t_seed, .int t_lines, .int t_people, .int t_letters, .int t_lawTold, .ref t_hours, .ref t_kind, .ref t_master, .ref t_from, .ref t_to, .ref t_on, .ref t_told, .ref t_after, .ref t_worth, .ref t_by])), (r_doneOn, .inl (kr_doneOn, 49, .inl fr_doneOn))] H → va_D A [(r, .inr (4, [dv, .ref r_came, .ref r_doneOn, .ref r_left, .ref r_key, .ref r_heardOn, .ref r_standing, .ref r_pile, .ref r_size, .ref r_firstOf, .ref r_nextOf, .ref r_done, .int r_doneCount, .int r_today, .long r_lot])), (t, .inr (7, [.int t_days, .int t_post, .int t_law, .int t_seed, .int t_lines, .int t_people, .int t_letters, .int t_lawTold, .ref t_hours, .ref t_kind, .ref t_master, .ref t_from, .ref t_to, .ref t_on, .ref t_told, .ref t_after, .ref t_worth, .ref t_by])), (r_doneOn, .inl (kr_doneOn, 49, .inl fr_doneOn))] → va_S A s.heap H locs → lv_has ls 4 [(0, .ref r), (1, .ref t), (2, .int v_7), (3, .int v_8)] → W pr_ l en_ ({ frames := 0, cells := 0, slots := 0, locals := 0 }) s me_ ([.ref r, .ref t]).toArray below meth c H locs 0 0 Q (F0 me_ 4 ls []) := by
    intro k
    induction k with
    | zero => intro v_7 v_8 H locs ls hmu; exact absurd hmu (Nat.not_lt_zero _)
    | succ k ih4_155 =>
      intro v_7 v_8 H locs ls hmu4 b_v_8 hP hD hS hl
      refine lv_iload_n hx hb dX4_answeredIn_4 rfl (lv_at hl 3 rfl) ?_
      refine lv_aload_n hx hb dX4_answeredIn_5 rfl (lv_at hl 1 rfl) ?_
      refine va_get (D := (dC, dI)) (ci := 7) (v := .int t_letters) (C := RX7) (T := TX7) (N := 18) hx hb hts inA7 hown hK hP 1 rfl rfl 6 (by decide) (hts _ w_596) (fun _ h9 => h9) rfl dX4_answeredIn_6 ?_
      have b_t_letters : (0) ≤ t_letters.toInt ∧ t_letters.toInt ≤ 24 := b_t_letters
      refine lv_icmp_ge (tgt := 36) hx hb dX4_answeredIn_9 (by decide) (fun c_156 => ?_) (fun c_156 => ?_)
      · have ec_156 := q_ge (a := v_8.toInt) (b := t_letters.toInt) rfl rfl c_156
        refine lv_iload_n hx hb dX4_answeredIn_36 rfl (lv_at hl 2 rfl) ?_
        have hP9 := hP.sub (ws' := [(r, .inr (4, [dv, .ref r_came, .ref r_doneOn, .ref r_left, .ref r_key, .ref r_heardOn, .ref r_standing, .ref r_pile, .ref r_size, .ref r_firstOf, .ref r_nextOf, .ref r_done, .int r_doneCount, .int r_today, .long r_lot])), (t, .inr (7, [.int t_days, .int t_post, .int t_law, .int t_seed, .int t_lines, .int t_people, .int t_letters, .int t_lawTold, .ref t_hours, .ref t_kind, .ref t_master, .ref t_from, .ref t_to, .ref t_on, .ref t_told, .ref t_after, .ref t_worth, .ref t_by])), (r_doneOn, .inl (kr_doneOn, 49, .inl fr_doneOn))]) [0, 1, 2] rfl
        have hD9 := hD.sub (ws' := [(r, .inr (4, [dv, .ref r_came, .ref r_doneOn, .ref r_left, .ref r_key, .ref r_heardOn, .ref r_standing, .ref r_pile, .ref r_size, .ref r_firstOf, .ref r_nextOf, .ref r_done, .int r_doneCount, .int r_today, .long r_lot])), (t, .inr (7, [.int t_days, .int t_post, .int t_law, .int t_seed, .int t_lines, .int t_people, .int t_letters, .int t_lawTold, .ref t_hours, .ref t_kind, .ref t_master, .ref t_from, .ref t_to, .ref t_on, .ref t_told, .ref t_after, .ref t_worth, .ref t_by])), (r_doneOn, .inl (kr_doneOn, 49, .inl fr_doneOn))]) [0, 1, 2] (by decide) rfl
        have hK9 := hK.sub (tys' := []) [] rfl
        refine gQe eQ ?_
        exact W.iret (v := v_7) hx hb hr (fun t9 ht hW => ⟨⟨v_7, v_7, rfl, rfl, by rw [ht]; exact hP9, va_K.moved hW.alike hK9, hD9⟩, hS.F ht⟩) hS.2.2 dX4_answeredIn_37
      · have ec_156 := q_nge (a := v_8.toInt) (b := t_letters.toInt) rfl rfl c_156
        refine lv_iload_n hx hb dX4_answeredIn_12 rfl (lv_at hl 2 rfl) ?_
        refine lv_aload_n hx hb dX4_answeredIn_13 rfl (lv_at hl 0 rfl) ?_
        refine va_get (D := (dC, dI)) (ci := 4) (v := .ref r_doneOn) (C := RX4) (T := TX4) (N := 15) hx hb hts inA4 hown hK hP 0 rfl rfl 2 (by decide) (hts _ w_117) (fun _ h9 => h9) rfl dX4_answeredIn_14 ?_
        refine lv_iload_n hx hb dX4_answeredIn_17 rfl (lv_at hl 3 rfl) ?_
        refine va_iald hx hb hK hP 2 0 rfl rfl (vp_in_iff.mpr ⟨Int.le_trans (by decide) b_v_8.1, Int.lt_of_le_of_lt b_v_8.2 (by decide)⟩) dX4_answeredIn_18 ?_
        refine lv_topi (fun x_157 ex_157 => ?_)
        refine lv_iconst (v := (-1)) hx hb dX4_answeredIn_19 (by decide) ?_
        have rg_159 := q_rng x_157
        refine lv_icmp_ne (tgt := 27) hx hb dX4_answeredIn_20 (by decide) (fun c_158 => ?_) (fun c_158 => ?_)
        · have ec_158 := q_ne (a := x_157.toInt) (b := -1) rfl (by decide) c_158
          refine lv_iconst (v := 1) hx hb dX4_answeredIn_27 (by decide) ?_
          refine lv_iadd hx hb dX4_answeredIn_28 ?_
          refine lv_topi (fun x_160 ex_160 => ?_)
          refine lv_istore_n (lv' := [(2, .int x_160), (0, .ref r), (1, .ref t), (3, .int v_8)]) hx hb dX4_answeredIn_29 rfl hl (by decide) rfl (fun ls hl => ?_)
          obtain ⟨y_161, ey_161⟩ : ∃ y : Int32, y = v_8 + Int32.ofInt (1) := ⟨_, rfl⟩
          have b_y_161 := q_add (a := v_8.toInt) (b := 1) ey_161 rfl (by decide) (by omega) (by omega)
          refine lv_iinc (v := y_161) (lv' := [(3, .int y_161), (2, .int x_160), (0, .ref r), (1, .ref t)]) hx hb dX4_answeredIn_30 hl (k := 3) rfl ey_161.symm (by decide) rfl (fun ls hl => ?_)
          refine lv_goto (tgt := 4) hx hb dX4_answeredIn_33 (by decide) ?_
          have bq_162 : (0) ≤ y_161.toInt ∧ y_161.toInt ≤ 24 := ⟨by omega, by omega⟩
          exact ih4_155 x_160 y_161 H locs ls (by omega) bq_162 hP hD hS (lv_sub hl [2, 3, 1, 0] rfl)
        · have ec_158 := q_nne (a := x_157.toInt) (b := -1) rfl (by decide) c_158
          refine lv_iconst (v := 0) hx hb dX4_answeredIn_23 (by decide) ?_
          refine lv_goto (tgt := 28) hx hb dX4_answeredIn_24 (by decide) ?_
          refine lv_iadd hx hb dX4_answeredIn_28 ?_
          refine lv_topi (fun x_163 ex_163 => ?_)
          have rg_164 := q_rng v_7
          have b_x_163 := q_add (a := v_7.toInt) (b := 0) ex_163 rfl (by decide) (by omega) (by omega)
          refine lv_istore_n (lv' := [(2, .int x_163), (0, .ref r), (1, .ref t), (3, .int v_8)]) hx hb dX4_answeredIn_29 rfl hl (by decide) rfl (fun ls hl => ?_)
          obtain ⟨y_165, ey_165⟩ : ∃ y : Int32, y = v_8 + Int32.ofInt (1) := ⟨_, rfl⟩
          have b_y_165 := q_add (a := v_8.toInt) (b := 1) ey_165 rfl (by decide) (by omega) (by omega)
          refine lv_iinc (v := y_165) (lv' := [(3, .int y_165), (2, .int x_163), (0, .ref r), (1, .ref t)]) hx hb dX4_answeredIn_30 hl (k := 3) rfl ey_165.symm (by decide) rfl (fun ls hl => ?_)
          refine lv_goto (tgt := 4) hx hb dX4_answeredIn_33 (by decide) ?_
          have bq_166 : (0) ≤ y_165.toInt ∧ y_165.toInt ≤ 24 := ⟨by omega, by omega⟩
          exact ih4_155 x_163 y_165 H locs ls (by omega) bq_166 hP hD hS (lv_sub hl [2, 3, 1, 0] rfl)
  exact hL4_155 _ 0 0 s.heap [] ls (Nat.lt_succ_self _) ⟨by decide, by decide⟩ hP hD hS (lv_sub hl [2, 3, 1, 0] rfl)
set_option maxHeartbeats 4000000 in
set_option maxRecDepth 100000 in
theorem r_stuckPeople (l : Launch) (dC : Nat → ClassId) (dI : Nat → Nat → Nat) (sz : Nat) (r : Nat) (dv : Value) (r_came : Nat) (r_doneOn : Nat) (r_left : Nat) (r_key : Nat) (r_heardOn : Nat) (r_standing : Nat) (r_pile : Nat) (r_size : Nat) (r_firstOf : Nat) (r_nextOf : Nat) (r_done : Nat) (r_doneCount : Int32) (r_today : Int32) (r_lot : Int64) (kr_standing : ClassId) (fr_standing : Nat → Int32) (b_r_doneCount : (0) ≤ r_doneCount.toInt ∧ r_doneCount.toInt ≤ 49) (b_r_today : (0) ≤ r_today.toInt ∧ r_today.toInt ≤ 39) (g_fr_standing : bd (-1) (7) fr_standing) : Met l yX4_stuckPeople (.code yX4_stuckPeople cX4_stuckPeople 3 (some .int) :: ALLW) ({ frames := 0, cells := 0, slots := 0, locals := 0 }) (va_Pc [.ref r] (fun U => U.heap.size = sz ∧ va_P (dC, dI) vwCl [(r, .inr (4, [dv, .ref r_came, .ref r_doneOn, .ref r_left, .ref r_key, .ref r_heardOn, .ref r_standing, .ref r_pile, .ref r_size, .ref r_firstOf, .ref r_nextOf, .ref r_done, .int r_doneCount, .int r_today, .long r_lot])), (r_standing, .inl (kr_standing, 8, .inl fr_standing))] U.heap ∧ va_K (dC, dI) vwCl [(kr_standing, .int)] U ∧ va_D (fun _ => True) [(r, .inr (4, [dv, .ref r_came, .ref r_doneOn, .ref r_left, .ref r_key, .ref r_heardOn, .ref r_standing, .ref r_pile, .ref r_size, .ref r_firstOf, .ref r_nextOf, .ref r_done, .int r_doneCount, .int r_today, .long r_lot])), (r_standing, .inl (kr_standing, 8, .inl fr_standing))])) (va_Qi (fun (r u : Int32) => r = u) (fun (u : Int32) (t9 : State) => va_P (dC, dI) vwCl [(r, .inr (4, [dv, .ref r_came, .ref r_doneOn, .ref r_left, .ref r_key, .ref r_heardOn, .ref r_standing, .ref r_pile, .ref r_size, .ref r_firstOf, .ref r_nextOf, .ref r_done, .int r_doneCount, .int r_today, .long r_lot])), (r_standing, .inl (kr_standing, 8, .inl fr_standing))] t9.heap ∧ va_K (dC, dI) vwCl [] t9 ∧ va_D (va_A [(r, .inr (4, [dv, .ref r_came, .ref r_doneOn, .ref r_left, .ref r_key, .ref r_heardOn, .ref r_standing, .ref r_pile, .ref r_size, .ref r_firstOf, .ref r_nextOf, .ref r_done, .int r_doneCount, .int r_today, .long r_lot])), (r_standing, .inl (kr_standing, 8, .inl fr_standing))] sz) [(r, .inr (4, [dv, .ref r_came, .ref r_doneOn, .ref r_left, .ref r_key, .ref r_heardOn, .ref r_standing, .ref r_pile, .ref r_size, .ref r_firstOf, .ref r_nextOf, .ref r_done, .int r_doneCount, .int r_today, .long r_lot])), (r_standing, .inl (kr_standing, 8, .inl fr_standing))]) (va_A [(r, .inr (4, [dv, .ref r_came, .ref r_doneOn, .ref r_left, .ref r_key, .ref r_heardOn, .ref r_standing, .ref r_pile, .ref r_size, .ref r_firstOf, .ref r_nextOf, .ref r_done, .int r_doneCount, .int r_today, .long r_lot])), (r_standing, .inl (kr_standing, 8, .inl fr_standing))] sz)) 0 0 (va_A [(r, .inr (4, [dv, .ref r_came, .ref r_doneOn, .ref r_left, .ref r_key, .ref r_heardOn, .ref r_standing, .ref r_pile, .ref r_size, .ref r_firstOf, .ref r_nextOf, .ref r_done, .int r_doneCount, .int r_today, .long r_lot])), (r_standing, .inl (kr_standing, 8, .inl fr_standing))] sz) := by
  refine Met.ofW (cc := cX4_stuckPeople) (maxL := 3) (ret := (some .int)) (by decide) rfl ?_
  intro pr_ en_ s me_ args below meth c s₁ B hml hv
  obtain ⟨rfl, hsz, hP, hK, hD0⟩ := hv
  have hx := B.exec
  have hb := B.bytes
  have hr := B.returns
  have hts0 := atoms_spec (ws := (.code yX4_stuckPeople cX4_stuckPeople 3 (some .int) :: ALLW)) B.pre
  have hts := fun (w : Cond) (h : w ∈ ALLW) => hts0 w (List.mem_cons_of_mem _ h)
  have hown : s.vm.findClass RX4 = some me_.cls := findClass_of_methodNamed B.named
  have hlocks := B.notSynchronized
  subst hsz
  have hD := hD0.self (sz := s.heap.size)
  generalize hAe : va_A [(r, .inr (4, [dv, .ref r_came, .ref r_doneOn, .ref r_left, .ref r_key, .ref r_heardOn, .ref r_standing, .ref r_pile, .ref r_size, .ref r_firstOf, .ref r_nextOf, .ref r_done, .int r_doneCount, .int r_today, .long r_lot])), (r_standing, .inl (kr_standing, 8, .inl fr_standing))] s.heap.size = A at hD ⊢
  have hA : ∀ q : Nat, s.heap.size ≤ q → A q := fun q h => by rw [← hAe]; exact Or.inr h
  have hS : va_S A s.heap s.heap [] := va_S.rf
  have hP : va_P (dC, dI) vwCl [(r, .inr (4, [dv, .ref r_came, .ref r_doneOn, .ref r_left, .ref r_key, .ref r_heardOn, .ref r_standing, .ref r_pile, .ref r_size, .ref r_firstOf, .ref r_nextOf, .ref r_done, .int r_doneCount, .int r_today, .long r_lot])), (r_standing, .inl (kr_standing, 8, .inl fr_standing))] s.heap := hP
  have hl := lv_entry ([.ref r]) (n := 3) (Nat.le_of_ble_eq_true rfl)
  rw [lg_entry_eq]
  generalize (lg_sl ([.ref r]) ++ List.replicate (3 - (lg_sl ([.ref r])).length) Slot.unset).toArray = ls at hl ⊢
  have hl : lv_has ls 3 [(0, .ref r)] := hl
  refine gQ (fun Q eQ => ?_)
  refine lv_iconst (v := 0) hx hb dX4_stuckPeople_0 (by decide) ?_
  refine lv_istore_n (lv' := [(1, .int 0), (0, .ref r)]) hx hb dX4_stuckPeople_1 rfl hl (by decide) rfl (fun ls hl => ?_)
  refine lv_iconst (v := 0) hx hb dX4_stuckPeople_2 (by decide) ?_
  refine lv_istore_n (lv' := [(2, .int 0), (1, .int 0), (0, .ref r)]) hx hb dX4_stuckPeople_3 rfl hl (by decide) rfl (fun ls hl => ?_)
  have hL4_57 : ∀ (k : Nat) (v_8 : Int32) (v_9 : Int32) (H : Heap) (locs : List Loc) (ls : Array Slot), (8 - v_9.toInt).toNat < k → ((0) ≤ v_9.toInt ∧ v_9.toInt ≤ 8) → va_P (dC, dI) vwCl [(r, .inr (4, [dv, .ref r_came, .ref r_doneOn, .ref r_left, .ref r_key, .ref r_heardOn, .ref r_standing, .ref r_pile, .ref r_size, .ref r_firstOf, .ref r_nextOf, .ref r_done, .int r_doneCount, .int r_today, .long r_lot])), (r_standing, .inl (kr_standing, 8, .inl fr_standing))] H → va_D A [(r, .inr (4, [dv, .ref r_came, .ref r_doneOn, .ref r_left, .ref r_key, .ref r_heardOn, .ref r_standing, .ref r_pile, .ref r_size, .ref r_firstOf, .ref r_nextOf, .ref r_done, .int r_doneCount, .int r_today, .long r_lot])), (r_standing, .inl (kr_standing, 8, .inl fr_standing))] → va_S A s.heap H locs → lv_has ls 3 [(0, .ref r), (1, .int v_8), (2, .int v_9)] → W pr_ l en_ ({ frames := 0, cells := 0, slots := 0, locals := 0 }) s me_ ([.ref r]).toArray below meth c H locs 0 0 Q (F0 me_ 4 ls []) := by
    intro k
    induction k with
    | zero => intro v_8 v_9 H locs ls hmu; exact absurd hmu (Nat.not_lt_zero _)
    | succ k ih4_57 =>
      intro v_8 v_9 H locs ls hmu4 b_v_9 hP hD hS hl
      refine lv_iload_n hx hb dX4_stuckPeople_4 rfl (lv_at hl 2 rfl) ?_
      refine lv_bipush (v := 8) hx hb dX4_stuckPeople_5 (by decide) ?_
      refine lv_icmp_ge (tgt := 36) hx hb dX4_stuckPeople_7 (by decide) (fun c_58 => ?_) (fun c_58 => ?_)
      · have ec_58 := q_ge (a := v_9.toInt) (b := 8) rfl (by decide) c_58
        refine lv_iload_n hx hb dX4_stuckPeople_36 rfl (lv_at hl 1 rfl) ?_
        have hP9 := hP.sub (ws' := [(r, .inr (4, [dv, .ref r_came, .ref r_doneOn, .ref r_left, .ref r_key, .ref r_heardOn, .ref r_standing, .ref r_pile, .ref r_size, .ref r_firstOf, .ref r_nextOf, .ref r_done, .int r_doneCount, .int r_today, .long r_lot])), (r_standing, .inl (kr_standing, 8, .inl fr_standing))]) [0, 1] rfl
        have hD9 := hD.sub (ws' := [(r, .inr (4, [dv, .ref r_came, .ref r_doneOn, .ref r_left, .ref r_key, .ref r_heardOn, .ref r_standing, .ref r_pile, .ref r_size, .ref r_firstOf, .ref r_nextOf, .ref r_done, .int r_doneCount, .int r_today, .long r_lot])), (r_standing, .inl (kr_standing, 8, .inl fr_standing))]) [0, 1] (by decide) rfl
        have hK9 := hK.sub (tys' := []) [] rfl
        refine gQe eQ ?_
        exact W.iret (v := v_8) hx hb hr (fun t9 ht hW => ⟨⟨v_8, v_8, rfl, rfl, by rw [ht]; exact hP9, va_K.moved hW.alike hK9, hD9⟩, hS.F ht⟩) hS.2.2 dX4_stuckPeople_37
      · have ec_58 := q_nge (a := v_9.toInt) (b := 8) rfl (by decide) c_58
        refine lv_iload_n hx hb dX4_stuckPeople_10 rfl (lv_at hl 1 rfl) ?_
        refine lv_aload_n hx hb dX4_stuckPeople_11 rfl (lv_at hl 0 rfl) ?_
        refine va_get (D := (dC, dI)) (ci := 4) (v := .ref r_standing) (C := RX4) (T := TX4) (N := 15) hx hb hts inA4 hown hK hP 0 rfl rfl 6 (by decide) (hts _ w_121) (fun _ h9 => h9) rfl dX4_stuckPeople_12 ?_
        refine lv_iload_n hx hb dX4_stuckPeople_15 rfl (lv_at hl 2 rfl) ?_
        refine va_iald hx hb hK hP 1 0 rfl rfl (vp_in_iff.mpr ⟨by omega, by omega⟩) dX4_stuckPeople_16 ?_
        refine lv_topi (fun x_59 ex_59 => ?_)
        have b_x_59 := bd.at g_fr_standing ex_59
        refine lv_iconst (v := (-1)) hx hb dX4_stuckPeople_17 (by decide) ?_
        refine lv_icmp_ne (tgt := 25) hx hb dX4_stuckPeople_18 (by decide) (fun c_60 => ?_) (fun c_60 => ?_)
        · have ec_60 := q_ne (a := x_59.toInt) (b := -1) rfl (by decide) c_60
          refine lv_iconst (v := 1) hx hb dX4_stuckPeople_25 (by decide) ?_
          refine lv_iload_n hx hb dX4_stuckPeople_26 rfl (lv_at hl 2 rfl) ?_
          refine lv_ishl hx hb dX4_stuckPeople_27 ?_
          refine lv_topi (fun x_61 ex_61 => ?_)
          refine lv_ior hx hb dX4_stuckPeople_28 ?_
          refine lv_topi (fun x_62 ex_62 => ?_)
          refine lv_istore_n (lv' := [(1, .int x_62), (0, .ref r), (2, .int v_9)]) hx hb dX4_stuckPeople_29 rfl hl (by decide) rfl (fun ls hl => ?_)
          obtain ⟨y_63, ey_63⟩ : ∃ y : Int32, y = v_9 + Int32.ofInt (1) := ⟨_, rfl⟩
          have b_y_63 := q_add (a := v_9.toInt) (b := 1) ey_63 rfl (by decide) (by omega) (by omega)
          refine lv_iinc (v := y_63) (lv' := [(2, .int y_63), (1, .int x_62), (0, .ref r)]) hx hb dX4_stuckPeople_30 hl (k := 2) rfl ey_63.symm (by decide) rfl (fun ls hl => ?_)
          refine lv_goto (tgt := 4) hx hb dX4_stuckPeople_33 (by decide) ?_
          have bq_64 : (0) ≤ y_63.toInt ∧ y_63.toInt ≤ 8 := ⟨by omega, by omega⟩
          exact ih4_57 x_62 y_63 H locs ls (by omega) bq_64 hP hD hS (lv_sub hl [2, 1, 0] rfl)
        · have ec_60 := q_nne (a := x_59.toInt) (b := -1) rfl (by decide) c_60
          refine lv_iconst (v := 0) hx hb dX4_stuckPeople_21 (by decide) ?_
          refine lv_goto (tgt := 28) hx hb dX4_stuckPeople_22 (by decide) ?_
          refine lv_ior hx hb dX4_stuckPeople_28 ?_
          refine lv_topi (fun x_65 ex_65 => ?_)
          refine lv_istore_n (lv' := [(1, .int x_65), (0, .ref r), (2, .int v_9)]) hx hb dX4_stuckPeople_29 rfl hl (by decide) rfl (fun ls hl => ?_)
          obtain ⟨y_66, ey_66⟩ : ∃ y : Int32, y = v_9 + Int32.ofInt (1) := ⟨_, rfl⟩
          have b_y_66 := q_add (a := v_9.toInt) (b := 1) ey_66 rfl (by decide) (by omega) (by omega)
          refine lv_iinc (v := y_66) (lv' := [(2, .int y_66), (1, .int x_65), (0, .ref r)]) hx hb dX4_stuckPeople_30 hl (k := 2) rfl ey_66.symm (by decide) rfl (fun ls hl => ?_)
          refine lv_goto (tgt := 4) hx hb dX4_stuckPeople_33 (by decide) ?_
          have bq_67 : (0) ≤ y_66.toInt ∧ y_66.toInt ≤ 8 := ⟨by omega, by omega⟩
          exact ih4_57 x_65 y_66 H locs ls (by omega) bq_67 hP hD hS (lv_sub hl [2, 1, 0] rfl)
  exact hL4_57 _ 0 0 s.heap [] ls (Nat.lt_succ_self _) ⟨by decide, by decide⟩ hP hD hS (lv_sub hl [2, 1, 0] rfl)
set_option maxHeartbeats 4000000 in
set_option maxRecDepth 100000 in
theorem r_ringOf (l : Launch) (dC : Nat → ClassId) (dI : Nat → Nat → Nat) (sz : Nat) (r : Nat) (a : Int32) (dv : Value) (r_came : Nat) (r_doneOn : Nat) (r_left : Nat) (r_key : Nat) (r_heardOn : Nat) (r_standing : Nat) (r_pile : Nat) (r_size : Nat) (r_firstOf : Nat) (r_nextOf : Nat) (r_done : Nat) (r_doneCount : Int32) (r_today : Int32) (r_lot : Int64) (kr_standing : ClassId) (fr_standing : Nat → Int32) (b_a : (0) ≤ a.toInt ∧ a.toInt ≤ 7) (b_r_doneCount : (0) ≤ r_doneCount.toInt ∧ r_doneCount.toInt ≤ 49) (b_r_today : (0) ≤ r_today.toInt ∧ r_today.toInt ≤ 39) (g_fr_standing : bd (-1) (7) fr_standing) : Met l yX4_ringOf (.code yX4_ringOf cX4_ringOf 5 (some .int) :: ALLW) ({ frames := 0, cells := 0, slots := 0, locals := 0 }) (va_Pc [.ref r, .int a] (fun U => U.heap.size = sz ∧ va_P (dC, dI) vwCl [(r, .inr (4, [dv, .ref r_came, .ref r_doneOn, .ref r_left, .ref r_key, .ref r_heardOn, .ref r_standing, .ref r_pile, .ref r_size, .ref r_firstOf, .ref r_nextOf, .ref r_done, .int r_doneCount, .int r_today, .long r_lot])), (r_standing, .inl (kr_standing, 8, .inl fr_standing))] U.heap ∧ va_K (dC, dI) vwCl [(kr_standing, .int)] U ∧ va_D (fun _ => True) [(r, .inr (4, [dv, .ref r_came, .ref r_doneOn, .ref r_left, .ref r_key, .ref r_heardOn, .ref r_standing, .ref r_pile, .ref r_size, .ref r_firstOf, .ref r_nextOf, .ref r_done, .int r_doneCount, .int r_today, .long r_lot])), (r_standing, .inl (kr_standing, 8, .inl fr_standing))])) (va_Qi (fun (r u : Int32) => r = u) (fun (u : Int32) (t9 : State) => va_P (dC, dI) vwCl [(r, .inr (4, [dv, .ref r_came, .ref r_doneOn, .ref r_left, .ref r_key, .ref r_heardOn, .ref r_standing, .ref r_pile, .ref r_size, .ref r_firstOf, .ref r_nextOf, .ref r_done, .int r_doneCount, .int r_today, .long r_lot])), (r_standing, .inl (kr_standing, 8, .inl fr_standing))] t9.heap ∧ va_K (dC, dI) vwCl [] t9 ∧ va_D (va_A [(r, .inr (4, [dv, .ref r_came, .ref r_doneOn, .ref r_left, .ref r_key, .ref r_heardOn, .ref r_standing, .ref r_pile, .ref r_size, .ref r_firstOf, .ref r_nextOf, .ref r_done, .int r_doneCount, .int r_today, .long r_lot])), (r_standing, .inl (kr_standing, 8, .inl fr_standing))] sz) [(r, .inr (4, [dv, .ref r_came, .ref r_doneOn, .ref r_left, .ref r_key, .ref r_heardOn, .ref r_standing, .ref r_pile, .ref r_size, .ref r_firstOf, .ref r_nextOf, .ref r_done, .int r_doneCount, .int r_today, .long r_lot])), (r_standing, .inl (kr_standing, 8, .inl fr_standing))]) (va_A [(r, .inr (4, [dv, .ref r_came, .ref r_doneOn, .ref r_left, .ref r_key, .ref r_heardOn, .ref r_standing, .ref r_pile, .ref r_size, .ref r_firstOf, .ref r_nextOf, .ref r_done, .int r_doneCount, .int r_today, .long r_lot])), (r_standing, .inl (kr_standing, 8, .inl fr_standing))] sz)) 0 0 (va_A [(r, .inr (4, [dv, .ref r_came, .ref r_doneOn, .ref r_left, .ref r_key, .ref r_heardOn, .ref r_standing, .ref r_pile, .ref r_size, .ref r_firstOf, .ref r_nextOf, .ref r_done, .int r_doneCount, .int r_today, .long r_lot])), (r_standing, .inl (kr_standing, 8, .inl fr_standing))] sz) := by
  refine Met.ofW (cc := cX4_ringOf) (maxL := 5) (ret := (some .int)) (by decide) rfl ?_
  intro pr_ en_ s me_ args below meth c s₁ B hml hv
  obtain ⟨rfl, hsz, hP, hK, hD0⟩ := hv
  have hx := B.exec
  have hb := B.bytes
  have hr := B.returns
  have hts0 := atoms_spec (ws := (.code yX4_ringOf cX4_ringOf 5 (some .int) :: ALLW)) B.pre
  have hts := fun (w : Cond) (h : w ∈ ALLW) => hts0 w (List.mem_cons_of_mem _ h)
  have hown : s.vm.findClass RX4 = some me_.cls := findClass_of_methodNamed B.named
  have hlocks := B.notSynchronized
  subst hsz
  have hD := hD0.self (sz := s.heap.size)
  generalize hAe : va_A [(r, .inr (4, [dv, .ref r_came, .ref r_doneOn, .ref r_left, .ref r_key, .ref r_heardOn, .ref r_standing, .ref r_pile, .ref r_size, .ref r_firstOf, .ref r_nextOf, .ref r_done, .int r_doneCount, .int r_today, .long r_lot])), (r_standing, .inl (kr_standing, 8, .inl fr_standing))] s.heap.size = A at hD ⊢
  have hA : ∀ q : Nat, s.heap.size ≤ q → A q := fun q h => by rw [← hAe]; exact Or.inr h
  have hS : va_S A s.heap s.heap [] := va_S.rf
  have hP : va_P (dC, dI) vwCl [(r, .inr (4, [dv, .ref r_came, .ref r_doneOn, .ref r_left, .ref r_key, .ref r_heardOn, .ref r_standing, .ref r_pile, .ref r_size, .ref r_firstOf, .ref r_nextOf, .ref r_done, .int r_doneCount, .int r_today, .long r_lot])), (r_standing, .inl (kr_standing, 8, .inl fr_standing))] s.heap := hP
  have hl := lv_entry ([.ref r, .int a]) (n := 5) (Nat.le_of_ble_eq_true rfl)
  rw [lg_entry_eq]
  generalize (lg_sl ([.ref r, .int a]) ++ List.replicate (5 - (lg_sl ([.ref r, .int a])).length) Slot.unset).toArray = ls at hl ⊢
  have hl : lv_has ls 5 [(0, .ref r), (1, .int a)] := hl
  refine gQ (fun Q eQ => ?_)
  refine lv_iconst (v := 0) hx hb dX4_ringOf_0 (by decide) ?_
  refine lv_istore_n (lv' := [(2, .int 0), (0, .ref r), (1, .int a)]) hx hb dX4_ringOf_1 rfl hl (by decide) rfl (fun ls hl => ?_)
  refine lv_iload_n hx hb dX4_ringOf_2 rfl (lv_at hl 2 rfl) ?_
  refine lv_istore_n (lv' := [(3, .int a), (2, .int 0), (0, .ref r), (1, .int a)]) hx hb dX4_ringOf_3 rfl hl (by decide) rfl (fun ls hl => ?_)
  refine lv_iconst (v := 0) hx hb dX4_ringOf_4 (by decide) ?_
  refine lv_istore (lv' := [(4, .int 0), (3, .int a), (2, .int 0), (0, .ref r), (1, .int a)]) hx hb dX4_ringOf_5 hl (by decide) rfl (fun ls hl => ?_)
  have hL7_58 : ∀ (k : Nat) (v_8 : Int32) (v_9 : Int32) (v_10 : Int32) (H : Heap) (locs : List Loc) (ls : Array Slot), (8 - v_10.toInt).toNat < k → ((0) ≤ v_9.toInt ∧ v_9.toInt ≤ 7) → ((0) ≤ v_10.toInt ∧ v_10.toInt ≤ 8) → va_P (dC, dI) vwCl [(r, .inr (4, [dv, .ref r_came, .ref r_doneOn, .ref r_left, .ref r_key, .ref r_heardOn, .ref r_standing, .ref r_pile, .ref r_size, .ref r_firstOf, .ref r_nextOf, .ref r_done, .int r_doneCount, .int r_today, .long r_lot])), (r_standing, .inl (kr_standing, 8, .inl fr_standing))] H → va_D A [(r, .inr (4, [dv, .ref r_came, .ref r_doneOn, .ref r_left, .ref r_key, .ref r_heardOn, .ref r_standing, .ref r_pile, .ref r_size, .ref r_firstOf, .ref r_nextOf, .ref r_done, .int r_doneCount, .int r_today, .long r_lot])), (r_standing, .inl (kr_standing, 8, .inl fr_standing))] → va_S A s.heap H locs → lv_has ls 5 [(0, .ref r), (1, .int a), (2, .int v_8), (3, .int v_9), (4, .int v_10)] → W pr_ l en_ ({ frames := 0, cells := 0, slots := 0, locals := 0 }) s me_ ([.ref r, .int a]).toArray below meth c H locs 0 0 Q (F0 me_ 7 ls []) := by
    intro k
    induction k with
    | zero => intro v_8 v_9 v_10 H locs ls hmu; exact absurd hmu (Nat.not_lt_zero _)
    | succ k ih7_58 =>
      intro v_8 v_9 v_10 H locs ls hmu7 b_v_9 b_v_10 hP hD hS hl
      refine lv_iload hx hb dX4_ringOf_7 (lv_at hl 4 rfl) ?_
      refine lv_bipush (v := 8) hx hb dX4_ringOf_9 (by decide) ?_
      refine lv_icmp_ge (tgt := 50) hx hb dX4_ringOf_11 (by decide) (fun c_59 => ?_) (fun c_59 => ?_)
      · have ec_59 := q_ge (a := v_10.toInt) (b := 8) rfl (by decide) c_59
        refine lv_iconst (v := 0) hx hb dX4_ringOf_50 (by decide) ?_
        have z_60 : (0 : Int32).toInt = 0 := by decide
        have hP9 := hP.sub (ws' := [(r, .inr (4, [dv, .ref r_came, .ref r_doneOn, .ref r_left, .ref r_key, .ref r_heardOn, .ref r_standing, .ref r_pile, .ref r_size, .ref r_firstOf, .ref r_nextOf, .ref r_done, .int r_doneCount, .int r_today, .long r_lot])), (r_standing, .inl (kr_standing, 8, .inl fr_standing))]) [0, 1] rfl
        have hD9 := hD.sub (ws' := [(r, .inr (4, [dv, .ref r_came, .ref r_doneOn, .ref r_left, .ref r_key, .ref r_heardOn, .ref r_standing, .ref r_pile, .ref r_size, .ref r_firstOf, .ref r_nextOf, .ref r_done, .int r_doneCount, .int r_today, .long r_lot])), (r_standing, .inl (kr_standing, 8, .inl fr_standing))]) [0, 1] (by decide) rfl
        have hK9 := hK.sub (tys' := []) [] rfl
        refine gQe eQ ?_
        exact W.iret (v := 0) hx hb hr (fun t9 ht hW => ⟨⟨0, 0, rfl, rfl, by rw [ht]; exact hP9, va_K.moved hW.alike hK9, hD9⟩, hS.F ht⟩) hS.2.2 dX4_ringOf_51
      · have ec_59 := q_nge (a := v_10.toInt) (b := 8) rfl (by decide) c_59
        refine lv_aload_n hx hb dX4_ringOf_14 rfl (lv_at hl 0 rfl) ?_
        refine va_get (D := (dC, dI)) (ci := 4) (v := .ref r_standing) (C := RX4) (T := TX4) (N := 15) hx hb hts inA4 hown hK hP 0 rfl rfl 6 (by decide) (hts _ w_121) (fun _ h9 => h9) rfl dX4_ringOf_15 ?_
        refine lv_iload_n hx hb dX4_ringOf_18 rfl (lv_at hl 3 rfl) ?_
        refine va_iald hx hb hK hP 1 0 rfl rfl (vp_in_iff.mpr ⟨Int.le_trans (by decide) b_v_9.1, Int.lt_of_le_of_lt b_v_9.2 (by decide)⟩) dX4_ringOf_19 ?_
        refine lv_topi (fun x_61 ex_61 => ?_)
        have b_x_61 := bd.at g_fr_standing ex_61
        refine lv_iconst (v := (-1)) hx hb dX4_ringOf_20 (by decide) ?_
        refine lv_icmp_eq (tgt := 50) hx hb dX4_ringOf_21 (by decide) (fun c_62 => ?_) (fun c_62 => ?_)
        · have ec_62 := q_eq (a := x_61.toInt) (b := -1) rfl (by decide) c_62
          refine lv_iconst (v := 0) hx hb dX4_ringOf_50 (by decide) ?_
          have z_63 : (0 : Int32).toInt = 0 := by decide
          have hP9 := hP.sub (ws' := [(r, .inr (4, [dv, .ref r_came, .ref r_doneOn, .ref r_left, .ref r_key, .ref r_heardOn, .ref r_standing, .ref r_pile, .ref r_size, .ref r_firstOf, .ref r_nextOf, .ref r_done, .int r_doneCount, .int r_today, .long r_lot])), (r_standing, .inl (kr_standing, 8, .inl fr_standing))]) [0, 1] rfl
          have hD9 := hD.sub (ws' := [(r, .inr (4, [dv, .ref r_came, .ref r_doneOn, .ref r_left, .ref r_key, .ref r_heardOn, .ref r_standing, .ref r_pile, .ref r_size, .ref r_firstOf, .ref r_nextOf, .ref r_done, .int r_doneCount, .int r_today, .long r_lot])), (r_standing, .inl (kr_standing, 8, .inl fr_standing))]) [0, 1] (by decide) rfl
          have hK9 := hK.sub (tys' := []) [] rfl
          refine gQe eQ ?_
          exact W.iret (v := 0) hx hb hr (fun t9 ht hW => ⟨⟨0, 0, rfl, rfl, by rw [ht]; exact hP9, va_K.moved hW.alike hK9, hD9⟩, hS.F ht⟩) hS.2.2 dX4_ringOf_51
        · have ec_62 := q_neq (a := x_61.toInt) (b := -1) rfl (by decide) c_62
          refine lv_iload_n hx hb dX4_ringOf_24 rfl (lv_at hl 2 rfl) ?_
          refine lv_iconst (v := 1) hx hb dX4_ringOf_25 (by decide) ?_
          refine lv_iload_n hx hb dX4_ringOf_26 rfl (lv_at hl 3 rfl) ?_
          refine lv_ishl hx hb dX4_ringOf_27 ?_
          refine lv_topi (fun x_64 ex_64 => ?_)
          refine lv_ior hx hb dX4_ringOf_28 ?_
          refine lv_topi (fun x_65 ex_65 => ?_)
          refine lv_istore_n (lv' := [(2, .int x_65), (0, .ref r), (1, .int a), (3, .int v_9), (4, .int v_10)]) hx hb dX4_ringOf_29 rfl hl (by decide) rfl (fun ls hl => ?_)
          refine lv_aload_n hx hb dX4_ringOf_30 rfl (lv_at hl 1 rfl) ?_
          refine va_get (D := (dC, dI)) (ci := 4) (v := .ref r_standing) (C := RX4) (T := TX4) (N := 15) hx hb hts inA4 hown hK hP 0 rfl rfl 6 (by decide) (hts _ w_121) (fun _ h9 => h9) rfl dX4_ringOf_31 ?_
          refine lv_iload_n hx hb dX4_ringOf_34 rfl (lv_at hl 3 rfl) ?_
          refine va_iald hx hb hK hP 1 0 rfl rfl (vp_in_iff.mpr ⟨Int.le_trans (by decide) b_v_9.1, Int.lt_of_le_of_lt b_v_9.2 (by decide)⟩) dX4_ringOf_35 ?_
          refine lv_topi (fun x_66 ex_66 => ?_)
          rw [show x_66 = x_61 from ex_66.trans ex_61.symm]
          clear ex_66 x_66
          refine lv_istore_n (lv' := [(3, .int x_61), (2, .int x_65), (0, .ref r), (1, .int a), (4, .int v_10)]) hx hb dX4_ringOf_36 rfl hl (by decide) rfl (fun ls hl => ?_)
          refine lv_iload_n hx hb dX4_ringOf_37 rfl (lv_at hl 0 rfl) ?_
          refine lv_iload_n hx hb dX4_ringOf_38 rfl (lv_at hl 3 rfl) ?_
          refine lv_icmp_ne (tgt := 44) hx hb dX4_ringOf_39 (by decide) (fun c_67 => ?_) (fun c_67 => ?_)
          · have ec_67 := q_ne (a := x_61.toInt) (b := a.toInt) rfl rfl c_67
            obtain ⟨y_68, ey_68⟩ : ∃ y : Int32, y = v_10 + Int32.ofInt (1) := ⟨_, rfl⟩
            have b_y_68 := q_add (a := v_10.toInt) (b := 1) ey_68 rfl (by decide) (by omega) (by omega)
            refine lv_iinc (v := y_68) (lv' := [(4, .int y_68), (3, .int x_61), (2, .int x_65), (0, .ref r), (1, .int a)]) hx hb dX4_ringOf_44 hl (k := 4) rfl ey_68.symm (by decide) rfl (fun ls hl => ?_)
            refine lv_goto (tgt := 7) hx hb dX4_ringOf_47 (by decide) ?_
            have bq_69 : (0) ≤ x_61.toInt ∧ x_61.toInt ≤ 7 := ⟨by omega, by omega⟩
            have bq_70 : (0) ≤ y_68.toInt ∧ y_68.toInt ≤ 8 := ⟨by omega, by omega⟩
            exact ih7_58 x_65 x_61 y_68 H locs ls (by omega) bq_69 bq_70 hP hD hS (lv_sub hl [3, 4, 2, 1, 0] rfl)
          · have ec_67 := q_nne (a := x_61.toInt) (b := a.toInt) rfl rfl c_67
            refine lv_iload_n hx hb dX4_ringOf_42 rfl (lv_at hl 1 rfl) ?_
            have hP9 := hP.sub (ws' := [(r, .inr (4, [dv, .ref r_came, .ref r_doneOn, .ref r_left, .ref r_key, .ref r_heardOn, .ref r_standing, .ref r_pile, .ref r_size, .ref r_firstOf, .ref r_nextOf, .ref r_done, .int r_doneCount, .int r_today, .long r_lot])), (r_standing, .inl (kr_standing, 8, .inl fr_standing))]) [0, 1] rfl
            have hD9 := hD.sub (ws' := [(r, .inr (4, [dv, .ref r_came, .ref r_doneOn, .ref r_left, .ref r_key, .ref r_heardOn, .ref r_standing, .ref r_pile, .ref r_size, .ref r_firstOf, .ref r_nextOf, .ref r_done, .int r_doneCount, .int r_today, .long r_lot])), (r_standing, .inl (kr_standing, 8, .inl fr_standing))]) [0, 1] (by decide) rfl
            have hK9 := hK.sub (tys' := []) [] rfl
            refine gQe eQ ?_
            exact W.iret (v := x_65) hx hb hr (fun t9 ht hW => ⟨⟨x_65, x_65, rfl, rfl, by rw [ht]; exact hP9, va_K.moved hW.alike hK9, hD9⟩, hS.F ht⟩) hS.2.2 dX4_ringOf_43
  exact hL7_58 _ 0 a 0 s.heap [] ls (Nat.lt_succ_self _) b_a ⟨by decide, by decide⟩ hP hD hS (lv_sub hl [3, 4, 2, 1, 0] rfl)
