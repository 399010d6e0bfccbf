set_option maxHeartbeats 4000000 in
set_option maxRecDepth 100000 in
theorem t_isPerson (l : Launch) (dC : Nat → ClassId) (dI : Nat → Nat → Nat) (sz : Nat) (t : Nat) (a : Int32) (t_days : Int32) (t_post : Int32) (t_law : Int32) (t_seed : Int32) (t_lines : Int32) (t_people : Int32) (t_letters : Int32) (t_lawTold : Int32) (t_hours : Nat) (t_kind : Nat) (t_master : Nat) (t_from : Nat) (t_to : Nat) (t_on : Nat) (t_told : Nat) (t_after : Nat) (t_worth : Nat) (t_by : Nat) (b_t_days : (0) ≤ t_days.toInt ∧ t_days.toInt ≤ 40) (b_t_post : (0) ≤ t_post.toInt ∧ t_post.toInt ≤ 9) (b_t_law : (0) ≤ t_law.toInt ∧ t_law.toInt ≤ 3) (b_t_people : (0) ≤ t_people.toInt ∧ t_people.toInt ≤ 8) (b_t_letters : (0) ≤ t_letters.toInt ∧ t_letters.toInt ≤ 24) (b_t_lawTold : (0) ≤ t_lawTold.toInt ∧ t_lawTold.toInt ≤ 1) : Met l yX7_isPerson (.code yX7_isPerson cX7_isPerson 2 (some .boolean) :: ALLW) ({ frames := 0, cells := 0, slots := 0, locals := 0 }) (va_Pc [.ref t, .int a] (fun U => U.heap.size = sz ∧ va_P (dC, dI) vwCl [(t, .inr (7, [.int t_days, .int t_post, .int t_law, .int t_seed, .int t_lines, .int t_people, .int t_letters, .int t_lawTold, .ref t_hours, .ref t_kind, .ref t_master, .ref t_from, .ref t_to, .ref t_on, .ref t_told, .ref t_after, .ref t_worth, .ref t_by]))] U.heap ∧ va_K (dC, dI) vwCl [] U ∧ va_D (fun _ => True) [(t, .inr (7, [.int t_days, .int t_post, .int t_law, .int t_seed, .int t_lines, .int t_people, .int t_letters, .int t_lawTold, .ref t_hours, .ref t_kind, .ref t_master, .ref t_from, .ref t_to, .ref t_on, .ref t_told, .ref t_after, .ref t_worth, .ref t_by]))])) (va_Qi (fun (r u : Int32) => r = u) (fun (u : Int32) (t9 : State) => ((0) ≤ u.toInt ∧ u.toInt ≤ 1) ∧ (u.toInt = 0 ∨ (0 ≤ a.toInt ∧ a.toInt < t_people.toInt)) ∧ va_P (dC, dI) vwCl [(t, .inr (7, [.int t_days, .int t_post, .int t_law, .int t_seed, .int t_lines, .int t_people, .int t_letters, .int t_lawTold, .ref t_hours, .ref t_kind, .ref t_master, .ref t_from, .ref t_to, .ref t_on, .ref t_told, .ref t_after, .ref t_worth, .ref t_by]))] t9.heap ∧ va_K (dC, dI) vwCl [] t9 ∧ va_D (va_A [(t, .inr (7, [.int t_days, .int t_post, .int t_law, .int t_seed, .int t_lines, .int t_people, .int t_letters, .int t_lawTold, .ref t_hours, .ref t_kind, .ref t_master, .ref t_from, .ref t_to, .ref t_on, .ref t_told, .ref t_after, .ref t_worth, .ref t_by]))] sz) [(t, .inr (7, [.int t_days, .int t_post, .int t_law, .int t_seed, .int t_lines, .int t_people, .int t_letters, .int t_lawTold, .ref t_hours, .ref t_kind, .ref t_master, .ref t_from, .ref t_to, .ref t_on, .ref t_told, .ref t_after, .ref t_worth, .ref t_by]))]) (va_A [(t, .inr (7, [.int t_days, .int t_post, .int t_law, .int t_seed, .int t_lines, .int t_people, .int t_letters, .int t_lawTold, .ref t_hours, .ref t_kind, .ref t_master, .ref t_from, .ref t_to, .ref t_on, .ref t_told, .ref t_after, .ref t_worth, .ref t_by]))] sz)) 0 0 (va_A [(t, .inr (7, [.int t_days, .int t_post, .int t_law, .int t_seed, .int t_lines, .int t_people, .int t_letters, .int t_lawTold, .ref t_hours, .ref t_kind, .ref t_master, .ref t_from, .ref t_to, .ref t_on, .ref t_told, .ref t_after, .ref t_worth, .ref t_by]))] sz) := by
  refine Met.ofW (cc := cX7_isPerson) (maxL := 2) (ret := (some .boolean)) (by decide) rfl ?_
  intro pr_ en_ s me_ args below meth c s₁ B hml hv
  obtain ⟨rfl, hsz, hP, hK, hD0⟩ := hv
  have hx := B.exec
  have hb := B.bytes
  have hr := B.returns
  have hts0 := atoms_spec (ws := (.code yX7_isPerson cX7_isPerson 2 (some .boolean) :: ALLW)) B.pre
  have hts := fun (w : Cond) (h : w ∈ ALLW) => hts0 w (List.mem_cons_of_mem _ h)
  have hown : s.vm.findClass RX7 = some me_.cls := findClass_of_methodNamed B.named
  have hlocks := B.notSynchronized
  subst hsz
  have hD := hD0.self (sz := s.heap.size)
  generalize hAe : va_A [(t, .inr (7, [.int t_days, .int t_post, .int t_law, .int t_seed, .int t_lines, .int t_people, .int t_letters, .int t_lawTold, .ref t_hours, .ref t_kind, .ref t_master, .ref t_from, .ref t_to, .ref t_on, .ref t_told, .ref t_after, .ref t_worth, .ref t_by]))] s.heap.size = A at hD ⊢
  have hA : ∀ q : Nat, s.heap.size ≤ q → A q := fun q h => by rw [← hAe]; exact Or.inr h
  have hS : va_S A s.heap s.heap [] := va_S.rf
  have hP : va_P (dC, dI) vwCl [(t, .inr (7, [.int t_days, .int t_post, .int t_law, .int t_seed, .int t_lines, .int t_people, .int t_letters, .int t_lawTold, .ref t_hours, .ref t_kind, .ref t_master, .ref t_from, .ref t_to, .ref t_on, .ref t_told, .ref t_after, .ref t_worth, .ref t_by]))] s.heap := hP
  have hl := lv_entry ([.ref t, .int a]) (n := 2) (Nat.le_of_ble_eq_true rfl)
  rw [lg_entry_eq]
  generalize (lg_sl ([.ref t, .int a]) ++ List.replicate (2 - (lg_sl ([.ref t, .int a])).length) Slot.unset).toArray = ls at hl ⊢
  have hl : lv_has ls 2 [(0, .ref t), (1, .int a)] := hl
  refine gQ (fun Q eQ => ?_)
  refine lv_iload_n hx hb dX7_isPerson_0 rfl (lv_at hl 1 rfl) ?_
  have rg_2 := q_rng a
  refine lv_if_lt (tgt := 16) hx hb dX7_isPerson_1 (by decide) (fun c_1 => ?_) (fun c_1 => ?_)
  · have ec_1 := q_lt (a := a.toInt) (b := 0) rfl (by decide) c_1
    refine lv_iconst (v := 0) hx hb dX7_isPerson_16 (by decide) ?_
    have z_3 : (0 : Int32).toInt = 0 := by decide
    have hP9 := hP.sub (ws' := [(t, .inr (7, [.int t_days, .int t_post, .int t_law, .int t_seed, .int t_lines, .int t_people, .int t_letters, .int t_lawTold, .ref t_hours, .ref t_kind, .ref t_master, .ref t_from, .ref t_to, .ref t_on, .ref t_told, .ref t_after, .ref t_worth, .ref t_by]))]) [0] rfl
    have hD9 := hD.sub (ws' := [(t, .inr (7, [.int t_days, .int t_post, .int t_law, .int t_seed, .int t_lines, .int t_people, .int t_letters, .int t_lawTold, .ref t_hours, .ref t_kind, .ref t_master, .ref t_from, .ref t_to, .ref t_on, .ref t_told, .ref t_after, .ref t_worth, .ref t_by]))]) [0] (by decide) rfl
    have hK9 := hK.sub (tys' := []) [] rfl
    refine gQe eQ ?_
    exact W.zret (v := 0) hx hb hr (by decide) (fun t9 ht hW => ⟨⟨0, 0, rfl, rfl, ⟨by decide, by decide⟩, (by omega), by rw [ht]; exact hP9, va_K.moved hW.alike hK9, hD9⟩, hS.F ht⟩) hS.2.2 dX7_isPerson_17
  · have ec_1 := q_nlt (a := a.toInt) (b := 0) rfl (by decide) c_1
    refine lv_iload_n hx hb dX7_isPerson_4 rfl (lv_at hl 1 rfl) ?_
    refine lv_aload_n hx hb dX7_isPerson_5 rfl (lv_at hl 0 rfl) ?_
    refine va_get (D := (dC, dI)) (ci := 7) (v := .int t_people) (C := RX7) (T := TX7) (N := 18) hx hb hts inA7 hown hK hP 0 rfl rfl 5 (by decide) (hts _ w_82) (fun _ h9 => h9) rfl dX7_isPerson_6 ?_
    refine lv_icmp_ge (tgt := 16) hx hb dX7_isPerson_9 (by decide) (fun c_4 => ?_) (fun c_4 => ?_)
    · have ec_4 := q_ge (a := a.toInt) (b := t_people.toInt) rfl rfl c_4
      refine lv_iconst (v := 0) hx hb dX7_isPerson_16 (by decide) ?_
      have z_5 : (0 : Int32).toInt = 0 := by decide
      have hP9 := hP.sub (ws' := [(t, .inr (7, [.int t_days, .int t_post, .int t_law, .int t_seed, .int t_lines, .int t_people, .int t_letters, .int t_lawTold, .ref t_hours, .ref t_kind, .ref t_master, .ref t_from, .ref t_to, .ref t_on, .ref t_told, .ref t_after, .ref t_worth, .ref t_by]))]) [0] rfl
      have hD9 := hD.sub (ws' := [(t, .inr (7, [.int t_days, .int t_post, .int t_law, .int t_seed, .int t_lines, .int t_people, .int t_letters, .int t_lawTold, .ref t_hours, .ref t_kind, .ref t_master, .ref t_from, .ref t_to, .ref t_on, .ref t_told, .ref t_after, .ref t_worth, .ref t_by]))]) [0] (by decide) rfl
      have hK9 := hK.sub (tys' := []) [] rfl
      refine gQe eQ ?_
      exact W.zret (v := 0) hx hb hr (by decide) (fun t9 ht hW => ⟨⟨0, 0, rfl, rfl, ⟨by decide, by decide⟩, (by omega), by rw [ht]; exact hP9, va_K.moved hW.alike hK9, hD9⟩, hS.F ht⟩) hS.2.2 dX7_isPerson_17
    · have ec_4 := q_nge (a := a.toInt) (b := t_people.toInt) rfl rfl c_4
      refine lv_iconst (v := 1) hx hb dX7_isPerson_12 (by decide) ?_
      refine lv_goto (tgt := 17) hx hb dX7_isPerson_13 (by decide) ?_
      have z_6 : (1 : Int32).toInt = 1 := by decide
      have hP9 := hP.sub (ws' := [(t, .inr (7, [.int t_days, .int t_post, .int t_law, .int t_seed, .int t_lines, .int t_people, .int t_letters, .int t_lawTold, .ref t_hours, .ref t_kind, .ref t_master, .ref t_from, .ref t_to, .ref t_on, .ref t_told, .ref t_after, .ref t_worth, .ref t_by]))]) [0] rfl
      have hD9 := hD.sub (ws' := [(t, .inr (7, [.int t_days, .int t_post, .int t_law, .int t_seed, .int t_lines, .int t_people, .int t_letters, .int t_lawTold, .ref t_hours, .ref t_kind, .ref t_master, .ref t_from, .ref t_to, .ref t_on, .ref t_told, .ref t_after, .ref t_worth, .ref t_by]))]) [0] (by decide) rfl
      have hK9 := hK.sub (tys' := []) [] rfl
      refine gQe eQ ?_
      exact W.zret (v := 1) hx hb hr (by decide) (fun t9 ht hW => ⟨⟨1, 1, rfl, rfl, ⟨by decide, by decide⟩, (by omega), by rw [ht]; exact hP9, va_K.moved hW.alike hK9, hD9⟩, hS.F ht⟩) hS.2.2 dX7_isPerson_17
set_option maxHeartbeats 4000000 in
set_option maxRecDepth 100000 in
theorem t_isDay (l : Launch) (dC : Nat → ClassId) (dI : Nat → Nat → Nat) (sz : Nat) (t : Nat) (a : Int32) (t_days : Int32) (t_post : Int32) (t_law : Int32) (t_seed : Int32) (t_lines : Int32) (t_people : Int32) (t_letters : Int32) (t_lawTold : Int32) (t_hours : Nat) (t_kind : Nat) (t_master : Nat) (t_from : Nat) (t_to : Nat) (t_on : Nat) (t_told : Nat) (t_after : Nat) (t_worth : Nat) (t_by : Nat) (b_t_days : (0) ≤ t_days.toInt ∧ t_days.toInt ≤ 40) (b_t_post : (0) ≤ t_post.toInt ∧ t_post.toInt ≤ 9) (b_t_law : (0) ≤ t_law.toInt ∧ t_law.toInt ≤ 3) (b_t_people : (0) ≤ t_people.toInt ∧ t_people.toInt ≤ 8) (b_t_letters : (0) ≤ t_letters.toInt ∧ t_letters.toInt ≤ 24) (b_t_lawTold : (0) ≤ t_lawTold.toInt ∧ t_lawTold.toInt ≤ 1) : Met l yX7_isDay (.code yX7_isDay cX7_isDay 2 (some .boolean) :: ALLW) ({ frames := 0, cells := 0, slots := 0, locals := 0 }) (va_Pc [.ref t, .int a] (fun U => U.heap.size = sz ∧ va_P (dC, dI) vwCl [(t, .inr (7, [.int t_days, .int t_post, .int t_law, .int t_seed, .int t_lines, .int t_people, .int t_letters, .int t_lawTold, .ref t_hours, .ref t_kind, .ref t_master, .ref t_from, .ref t_to, .ref t_on, .ref t_told, .ref t_after, .ref t_worth, .ref t_by]))] U.heap ∧ va_K (dC, dI) vwCl [] U ∧ va_D (fun _ => True) [(t, .inr (7, [.int t_days, .int t_post, .int t_law, .int t_seed, .int t_lines, .int t_people, .int t_letters, .int t_lawTold, .ref t_hours, .ref t_kind, .ref t_master, .ref t_from, .ref t_to, .ref t_on, .ref t_told, .ref t_after, .ref t_worth, .ref t_by]))])) (va_Qi (fun (r u : Int32) => r = u) (fun (u : Int32) (t9 : State) => ((0) ≤ u.toInt ∧ u.toInt ≤ 1) ∧ (u.toInt = 0 ∨ (0 ≤ a.toInt ∧ a.toInt < t_days.toInt)) ∧ va_P (dC, dI) vwCl [(t, .inr (7, [.int t_days, .int t_post, .int t_law, .int t_seed, .int t_lines, .int t_people, .int t_letters, .int t_lawTold, .ref t_hours, .ref t_kind, .ref t_master, .ref t_from, .ref t_to, .ref t_on, .ref t_told, .ref t_after, .ref t_worth, .ref t_by]))] t9.heap ∧ va_K (dC, dI) vwCl [] t9 ∧ va_D (va_A [(t, .inr (7, [.int t_days, .int t_post, .int t_law, .int t_seed, .int t_lines, .int t_people, .int t_letters, .int t_lawTold, .ref t_hours, .ref t_kind, .ref t_master, .ref t_from, .ref t_to, .ref t_on, .ref t_told, .ref t_after, .ref t_worth, .ref t_by]))] sz) [(t, .inr (7, [.int t_days, .int t_post, .int t_law, .int t_seed, .int t_lines, .int t_people, .int t_letters, .int t_lawTold, .ref t_hours, .ref t_kind, .ref t_master, .ref t_from, .ref t_to, .ref t_on, .ref t_told, .ref t_after, .ref t_worth, .ref t_by]))]) (va_A [(t, .inr (7, [.int t_days, .int t_post, .int t_law, .int t_seed, .int t_lines, .int t_people, .int t_letters, .int t_lawTold, .ref t_hours, .ref t_kind, .ref t_master, .ref t_from, .ref t_to, .ref t_on, .ref t_told, .ref t_after, .ref t_worth, .ref t_by]))] sz)) 0 0 (va_A [(t, .inr (7, [.int t_days, .int t_post, .int t_law, .int t_seed, .int t_lines, .int t_people, .int t_letters, .int t_lawTold, .ref t_hours, .ref t_kind, .ref t_master, .ref t_from, .ref t_to, .ref t_on, .ref t_told, .ref t_after, .ref t_worth, .ref t_by]))] sz) := by
  refine Met.ofW (cc := cX7_isDay) (maxL := 2) (ret := (some .boolean)) (by decide) rfl ?_
  intro pr_ en_ s me_ args below meth c s₁ B hml hv
  obtain ⟨rfl, hsz, hP, hK, hD0⟩ := hv
  have hx := B.exec
  have hb := B.bytes
  have hr := B.returns
  have hts0 := atoms_spec (ws := (.code yX7_isDay cX7_isDay 2 (some .boolean) :: ALLW)) B.pre
  have hts := fun (w : Cond) (h : w ∈ ALLW) => hts0 w (List.mem_cons_of_mem _ h)
  have hown : s.vm.findClass RX7 = some me_.cls := findClass_of_methodNamed B.named
  have hlocks := B.notSynchronized
  subst hsz
  have hD := hD0.self (sz := s.heap.size)
  generalize hAe : va_A [(t, .inr (7, [.int t_days, .int t_post, .int t_law, .int t_seed, .int t_lines, .int t_people, .int t_letters, .int t_lawTold, .ref t_hours, .ref t_kind, .ref t_master, .ref t_from, .ref t_to, .ref t_on, .ref t_told, .ref t_after, .ref t_worth, .ref t_by]))] s.heap.size = A at hD ⊢
  have hA : ∀ q : Nat, s.heap.size ≤ q → A q := fun q h => by rw [← hAe]; exact Or.inr h
  have hS : va_S A s.heap s.heap [] := va_S.rf
  have hP : va_P (dC, dI) vwCl [(t, .inr (7, [.int t_days, .int t_post, .int t_law, .int t_seed, .int t_lines, .int t_people, .int t_letters, .int t_lawTold, .ref t_hours, .ref t_kind, .ref t_master, .ref t_from, .ref t_to, .ref t_on, .ref t_told, .ref t_after, .ref t_worth, .ref t_by]))] s.heap := hP
  have hl := lv_entry ([.ref t, .int a]) (n := 2) (Nat.le_of_ble_eq_true rfl)
  rw [lg_entry_eq]
  generalize (lg_sl ([.ref t, .int a]) ++ List.replicate (2 - (lg_sl ([.ref t, .int a])).length) Slot.unset).toArray = ls at hl ⊢
  have hl : lv_has ls 2 [(0, .ref t), (1, .int a)] := hl
  refine gQ (fun Q eQ => ?_)
  refine lv_iload_n hx hb dX7_isDay_0 rfl (lv_at hl 1 rfl) ?_
  have rg_2 := q_rng a
  refine lv_if_lt (tgt := 16) hx hb dX7_isDay_1 (by decide) (fun c_1 => ?_) (fun c_1 => ?_)
  · have ec_1 := q_lt (a := a.toInt) (b := 0) rfl (by decide) c_1
    refine lv_iconst (v := 0) hx hb dX7_isDay_16 (by decide) ?_
    have z_3 : (0 : Int32).toInt = 0 := by decide
    have hP9 := hP.sub (ws' := [(t, .inr (7, [.int t_days, .int t_post, .int t_law, .int t_seed, .int t_lines, .int t_people, .int t_letters, .int t_lawTold, .ref t_hours, .ref t_kind, .ref t_master, .ref t_from, .ref t_to, .ref t_on, .ref t_told, .ref t_after, .ref t_worth, .ref t_by]))]) [0] rfl
    have hD9 := hD.sub (ws' := [(t, .inr (7, [.int t_days, .int t_post, .int t_law, .int t_seed, .int t_lines, .int t_people, .int t_letters, .int t_lawTold, .ref t_hours, .ref t_kind, .ref t_master, .ref t_from, .ref t_to, .ref t_on, .ref t_told, .ref t_after, .ref t_worth, .ref t_by]))]) [0] (by decide) rfl
    have hK9 := hK.sub (tys' := []) [] rfl
    refine gQe eQ ?_
    exact W.zret (v := 0) hx hb hr (by decide) (fun t9 ht hW => ⟨⟨0, 0, rfl, rfl, ⟨by decide, by decide⟩, (by omega), by rw [ht]; exact hP9, va_K.moved hW.alike hK9, hD9⟩, hS.F ht⟩) hS.2.2 dX7_isDay_17
  · have ec_1 := q_nlt (a := a.toInt) (b := 0) rfl (by decide) c_1
    refine lv_iload_n hx hb dX7_isDay_4 rfl (lv_at hl 1 rfl) ?_
    refine lv_aload_n hx hb dX7_isDay_5 rfl (lv_at hl 0 rfl) ?_
    refine va_get (D := (dC, dI)) (ci := 7) (v := .int t_days) (C := RX7) (T := TX7) (N := 18) hx hb hts inA7 hown hK hP 0 rfl rfl 0 (by decide) (hts _ w_77) (fun _ h9 => h9) rfl dX7_isDay_6 ?_
    refine lv_icmp_ge (tgt := 16) hx hb dX7_isDay_9 (by decide) (fun c_4 => ?_) (fun c_4 => ?_)
    · have ec_4 := q_ge (a := a.toInt) (b := t_days.toInt) rfl rfl c_4
      refine lv_iconst (v := 0) hx hb dX7_isDay_16 (by decide) ?_
      have z_5 : (0 : Int32).toInt = 0 := by decide
      have hP9 := hP.sub (ws' := [(t, .inr (7, [.int t_days, .int t_post, .int t_law, .int t_seed, .int t_lines, .int t_people, .int t_letters, .int t_lawTold, .ref t_hours, .ref t_kind, .ref t_master, .ref t_from, .ref t_to, .ref t_on, .ref t_told, .ref t_after, .ref t_worth, .ref t_by]))]) [0] rfl
      have hD9 := hD.sub (ws' := [(t, .inr (7, [.int t_days, .int t_post, .int t_law, .int t_seed, .int t_lines, .int t_people, .int t_letters, .int t_lawTold, .ref t_hours, .ref t_kind, .ref t_master, .ref t_from, .ref t_to, .ref t_on, .ref t_told, .ref t_after, .ref t_worth, .ref t_by]))]) [0] (by decide) rfl
      have hK9 := hK.sub (tys' := []) [] rfl
      refine gQe eQ ?_
      exact W.zret (v := 0) hx hb hr (by decide) (fun t9 ht hW => ⟨⟨0, 0, rfl, rfl, ⟨by decide, by decide⟩, (by omega), by rw [ht]; exact hP9, va_K.moved hW.alike hK9, hD9⟩, hS.F ht⟩) hS.2.2 dX7_isDay_17
    · have ec_4 := q_nge (a := a.toInt) (b := t_days.toInt) rfl rfl c_4
      refine lv_iconst (v := 1) hx hb dX7_isDay_12 (by decide) ?_
      refine lv_goto (tgt := 17) hx hb dX7_isDay_13 (by decide) ?_
      have z_6 : (1 : Int32).toInt = 1 := by decide
      have hP9 := hP.sub (ws' := [(t, .inr (7, [.int t_days, .int t_post, .int t_law, .int t_seed, .int t_lines, .int t_people, .int t_letters, .int t_lawTold, .ref t_hours, .ref t_kind, .ref t_master, .ref t_from, .ref t_to, .ref t_on, .ref t_told, .ref t_after, .ref t_worth, .ref t_by]))]) [0] rfl
      have hD9 := hD.sub (ws' := [(t, .inr (7, [.int t_days, .int t_post, .int t_law, .int t_seed, .int t_lines, .int t_people, .int t_letters, .int t_lawTold, .ref t_hours, .ref t_kind, .ref t_master, .ref t_from, .ref t_to, .ref t_on, .ref t_told, .ref t_after, .ref t_worth, .ref t_by]))]) [0] (by decide) rfl
      have hK9 := hK.sub (tys' := []) [] rfl
      refine gQe eQ ?_
      exact W.zret (v := 1) hx hb hr (by decide) (fun t9 ht hW => ⟨⟨1, 1, rfl, rfl, ⟨by decide, by decide⟩, (by omega), by rw [ht]; exact hP9, va_K.moved hW.alike hK9, hD9⟩, hS.F ht⟩) hS.2.2 dX7_isDay_17
set_option maxHeartbeats 4000000 in
set_option maxRecDepth 100000 in
theorem t_isTold (l : Launch) (dC : Nat → ClassId) (dI : Nat → Nat → Nat) (sz : Nat) (t : Nat) (a : Int32) (t_days : Int32) (t_post : Int32) (t_law : Int32) (t_seed : Int32) (t_lines : Int32) (t_people : Int32) (t_letters : Int32) (t_lawTold : Int32) (t_hours : Nat) (t_kind : Nat) (t_master : Nat) (t_from : Nat) (t_to : Nat) (t_on : Nat) (t_told : Nat) (t_after : Nat) (t_worth : Nat) (t_by : Nat) (b_t_days : (0) ≤ t_days.toInt ∧ t_days.toInt ≤ 40) (b_t_post : (0) ≤ t_post.toInt ∧ t_post.toInt ≤ 9) (b_t_law : (0) ≤ t_law.toInt ∧ t_law.toInt ≤ 3) (b_t_people : (0) ≤ t_people.toInt ∧ t_people.toInt ≤ 8) (b_t_letters : (0) ≤ t_letters.toInt ∧ t_letters.toInt ≤ 24) (b_t_lawTold : (0) ≤ t_lawTold.toInt ∧ t_lawTold.toInt ≤ 1) : Met l yX7_isTold (.code yX7_isTold cX7_isTold 2 (some .boolean) :: ALLW) ({ frames := 0, cells := 0, slots := 0, locals := 0 }) (va_Pc [.ref t, .int a] (fun U => U.heap.size = sz ∧ va_P (dC, dI) vwCl [(t, .inr (7, [.int t_days, .int t_post, .int t_law, .int t_seed, .int t_lines, .int t_people, .int t_letters, .int t_lawTold, .ref t_hours, .ref t_kind, .ref t_master, .ref t_from, .ref t_to, .ref t_on, .ref t_told, .ref t_after, .ref t_worth, .ref t_by]))] U.heap ∧ va_K (dC, dI) vwCl [] U ∧ va_D (fun _ => True) [(t, .inr (7, [.int t_days, .int t_post, .int t_law, .int t_seed, .int t_lines, .int t_people, .int t_letters, .int t_lawTold, .ref t_hours, .ref t_kind, .ref t_master, .ref t_from, .ref t_to, .ref t_on, .ref t_told, .ref t_after, .ref t_worth, .ref t_by]))])) (va_Qi (fun (r u : Int32) => r = u) (fun (u : Int32) (t9 : State) => ((0) ≤ u.toInt ∧ u.toInt ≤ 1) ∧ (u.toInt = 0 ∨ (0 ≤ a.toInt ∧ a.toInt < t_letters.toInt)) ∧ va_P (dC, dI) vwCl [(t, .inr (7, [.int t_days, .int t_post, .int t_law, .int t_seed, .int t_lines, .int t_people, .int t_letters, .int t_lawTold, .ref t_hours, .ref t_kind, .ref t_master, .ref t_from, .ref t_to, .ref t_on, .ref t_told, .ref t_after, .ref t_worth, .ref t_by]))] t9.heap ∧ va_K (dC, dI) vwCl [] t9 ∧ va_D (va_A [(t, .inr (7, [.int t_days, .int t_post, .int t_law, .int t_seed, .int t_lines, .int t_people, .int t_letters, .int t_lawTold, .ref t_hours, .ref t_kind, .ref t_master, .ref t_from, .ref t_to, .ref t_on, .ref t_told, .ref t_after, .ref t_worth, .ref t_by]))] sz) [(t, .inr (7, [.int t_days, .int t_post, .int t_law, .int t_seed, .int t_lines, .int t_people, .int t_letters, .int t_lawTold, .ref t_hours, .ref t_kind, .ref t_master, .ref t_from, .ref t_to, .ref t_on, .ref t_told, .ref t_after, .ref t_worth, .ref t_by]))]) (va_A [(t, .inr (7, [.int t_days, .int t_post, .int t_law, .int t_seed, .int t_lines, .int t_people, .int t_letters, .int t_lawTold, .ref t_hours, .ref t_kind, .ref t_master, .ref t_from, .ref t_to, .ref t_on, .ref t_told, .ref t_after, .ref t_worth, .ref t_by]))] sz)) 0 0 (va_A [(t, .inr (7, [.int t_days, .int t_post, .int t_law, .int t_seed, .int t_lines, .int t_people, .int t_letters, .int t_lawTold, .ref t_hours, .ref t_kind, .ref t_master, .ref t_from, .ref t_to, .ref t_on, .ref t_told, .ref t_after, .ref t_worth, .ref t_by]))] sz) := by
  refine Met.ofW (cc := cX7_isTold) (maxL := 2) (ret := (some .boolean)) (by decide) rfl ?_
  intro pr_ en_ s me_ args below meth c s₁ B hml hv
  obtain ⟨rfl, hsz, hP, hK, hD0⟩ := hv
  have hx := B.exec
  have hb := B.bytes
  have hr := B.returns
  have hts0 := atoms_spec (ws := (.code yX7_isTold cX7_isTold 2 (some .boolean) :: ALLW)) B.pre
  have hts := fun (w : Cond) (h : w ∈ ALLW) => hts0 w (List.mem_cons_of_mem _ h)
  have hown : s.vm.findClass RX7 = some me_.cls := findClass_of_methodNamed B.named
  have hlocks := B.notSynchronized
  subst hsz
  have hD := hD0.self (sz := s.heap.size)
  generalize hAe : va_A [(t, .inr (7, [.int t_days, .int t_post, .int t_law, .int t_seed, .int t_lines, .int t_people, .int t_letters, .int t_lawTold, .ref t_hours, .ref t_kind, .ref t_master, .ref t_from, .ref t_to, .ref t_on, .ref t_told, .ref t_after, .ref t_worth, .ref t_by]))] s.heap.size = A at hD ⊢
  have hA : ∀ q : Nat, s.heap.size ≤ q → A q := fun q h => by rw [← hAe]; exact Or.inr h
  have hS : va_S A s.heap s.heap [] := va_S.rf
  have hP : va_P (dC, dI) vwCl [(t, .inr (7, [.int t_days, .int t_post, .int t_law, .int t_seed, .int t_lines, .int t_people, .int t_letters, .int t_lawTold, .ref t_hours, .ref t_kind, .ref t_master, .ref t_from, .ref t_to, .ref t_on, .ref t_told, .ref t_after, .ref t_worth, .ref t_by]))] s.heap := hP
  have hl := lv_entry ([.ref t, .int a]) (n := 2) (Nat.le_of_ble_eq_true rfl)
  rw [lg_entry_eq]
  generalize (lg_sl ([.ref t, .int a]) ++ List.replicate (2 - (lg_sl ([.ref t, .int a])).length) Slot.unset).toArray = ls at hl ⊢
  have hl : lv_has ls 2 [(0, .ref t), (1, .int a)] := hl
  refine gQ (fun Q eQ => ?_)
  refine lv_iload_n hx hb dX7_isTold_0 rfl (lv_at hl 1 rfl) ?_
  have rg_2 := q_rng a
  refine lv_if_lt (tgt := 16) hx hb dX7_isTold_1 (by decide) (fun c_1 => ?_) (fun c_1 => ?_)
  · have ec_1 := q_lt (a := a.toInt) (b := 0) rfl (by decide) c_1
    refine lv_iconst (v := 0) hx hb dX7_isTold_16 (by decide) ?_
    have z_3 : (0 : Int32).toInt = 0 := by decide
    have hP9 := hP.sub (ws' := [(t, .inr (7, [.int t_days, .int t_post, .int t_law, .int t_seed, .int t_lines, .int t_people, .int t_letters, .int t_lawTold, .ref t_hours, .ref t_kind, .ref t_master, .ref t_from, .ref t_to, .ref t_on, .ref t_told, .ref t_after, .ref t_worth, .ref t_by]))]) [0] rfl
    have hD9 := hD.sub (ws' := [(t, .inr (7, [.int t_days, .int t_post, .int t_law, .int t_seed, .int t_lines, .int t_people, .int t_letters, .int t_lawTold, .ref t_hours, .ref t_kind, .ref t_master, .ref t_from, .ref t_to, .ref t_on, .ref t_told, .ref t_after, .ref t_worth, .ref t_by]))]) [0] (by decide) rfl
    have hK9 := hK.sub (tys' := []) [] rfl
    refine gQe eQ ?_
    exact W.zret (v := 0) hx hb hr (by decide) (fun t9 ht hW => ⟨⟨0, 0, rfl, rfl, ⟨by decide, by decide⟩, (by omega), by rw [ht]; exact hP9, va_K.moved hW.alike hK9, hD9⟩, hS.F ht⟩) hS.2.2 dX7_isTold_17
  · have ec_1 := q_nlt (a := a.toInt) (b := 0) rfl (by decide) c_1
    refine lv_iload_n hx hb dX7_isTold_4 rfl (lv_at hl 1 rfl) ?_
    refine lv_aload_n hx hb dX7_isTold_5 rfl (lv_at hl 0 rfl) ?_
    refine va_get (D := (dC, dI)) (ci := 7) (v := .int t_letters) (C := RX7) (T := TX7) (N := 18) hx hb hts inA7 hown hK hP 0 rfl rfl 6 (by decide) (hts _ w_83) (fun _ h9 => h9) rfl dX7_isTold_6 ?_
    refine lv_icmp_ge (tgt := 16) hx hb dX7_isTold_9 (by decide) (fun c_4 => ?_) (fun c_4 => ?_)
    · have ec_4 := q_ge (a := a.toInt) (b := t_letters.toInt) rfl rfl c_4
      refine lv_iconst (v := 0) hx hb dX7_isTold_16 (by decide) ?_
      have z_5 : (0 : Int32).toInt = 0 := by decide
      have hP9 := hP.sub (ws' := [(t, .inr (7, [.int t_days, .int t_post, .int t_law, .int t_seed, .int t_lines, .int t_people, .int t_letters, .int t_lawTold, .ref t_hours, .ref t_kind, .ref t_master, .ref t_from, .ref t_to, .ref t_on, .ref t_told, .ref t_after, .ref t_worth, .ref t_by]))]) [0] rfl
      have hD9 := hD.sub (ws' := [(t, .inr (7, [.int t_days, .int t_post, .int t_law, .int t_seed, .int t_lines, .int t_people, .int t_letters, .int t_lawTold, .ref t_hours, .ref t_kind, .ref t_master, .ref t_from, .ref t_to, .ref t_on, .ref t_told, .ref t_after, .ref t_worth, .ref t_by]))]) [0] (by decide) rfl
      have hK9 := hK.sub (tys' := []) [] rfl
      refine gQe eQ ?_
      exact W.zret (v := 0) hx hb hr (by decide) (fun t9 ht hW => ⟨⟨0, 0, rfl, rfl, ⟨by decide, by decide⟩, (by omega), by rw [ht]; exact hP9, va_K.moved hW.alike hK9, hD9⟩, hS.F ht⟩) hS.2.2 dX7_isTold_17
    · have ec_4 := q_nge (a := a.toInt) (b := t_letters.toInt) rfl rfl c_4
      refine lv_iconst (v := 1) hx hb dX7_isTold_12 (by decide) ?_
      refine lv_goto (tgt := 17) hx hb dX7_isTold_13 (by decide) ?_
      have z_6 : (1 : Int32).toInt = 1 := by decide
      have hP9 := hP.sub (ws' := [(t, .inr (7, [.int t_days, .int t_post, .int t_law, .int t_seed, .int t_lines, .int t_people, .int t_letters, .int t_lawTold, .ref t_hours, .ref t_kind, .ref t_master, .ref t_from, .ref t_to, .ref t_on, .ref t_told, .ref t_after, .ref t_worth, .ref t_by]))]) [0] rfl
      have hD9 := hD.sub (ws' := [(t, .inr (7, [.int t_days, .int t_post, .int t_law, .int t_seed, .int t_lines, .int t_people, .int t_letters, .int t_lawTold, .ref t_hours, .ref t_kind, .ref t_master, .ref t_from, .ref t_to, .ref t_on, .ref t_told, .ref t_after, .ref t_worth, .ref t_by]))]) [0] (by decide) rfl
      have hK9 := hK.sub (tys' := []) [] rfl
      refine gQe eQ ?_
      exact W.zret (v := 1) hx hb hr (by decide) (fun t9 ht hW => ⟨⟨1, 1, rfl, rfl, ⟨by decide, by decide⟩, (by omega), by rw [ht]; exact hP9, va_K.moved hW.alike hK9, hD9⟩, hS.F ht⟩) hS.2.2 dX7_isTold_17
set_option maxHeartbeats 4000000 in
set_option maxRecDepth 100000 in
theorem t_isLetter (l : Launch) (dC : Nat → ClassId) (dI : Nat → Nat → Nat) (sz : Nat) (t : Nat) (a : Int32) (t_days : Int32) (t_post : Int32) (t_law : Int32) (t_seed : Int32) (t_lines : Int32) (t_people : Int32) (t_letters : Int32) (t_lawTold : Int32) (t_hours : Nat) (t_kind : Nat) (t_master : Nat) (t_from : Nat) (t_to : Nat) (t_on : Nat) (t_told : Nat) (t_after : Nat) (t_worth : Nat) (t_by : Nat) (kt_told : ClassId) (ft_told : Nat → Int32) (b_t_days : (0) ≤ t_days.toInt ∧ t_days.toInt ≤ 40) (b_t_post : (0) ≤ t_post.toInt ∧ t_post.toInt ≤ 9) (b_t_law : (0) ≤ t_law.toInt ∧ t_law.toInt ≤ 3) (b_t_people : (0) ≤ t_people.toInt ∧ t_people.toInt ≤ 8) (b_t_letters : (0) ≤ t_letters.toInt ∧ t_letters.toInt ≤ 24) (b_t_lawTold : (0) ≤ t_lawTold.toInt ∧ t_lawTold.toInt ≤ 1) : Met l yX7_isLetter (.code yX7_isLetter cX7_isLetter 2 (some .boolean) :: ALLW) ({ frames := 1, cells := 0, slots := 0, locals := 21 }) (va_Pc [.ref t, .int a] (fun U => U.heap.size = sz ∧ va_P (dC, dI) vwCl [(t, .inr (7, [.int t_days, .int t_post, .int t_law, .int t_seed, .int t_lines, .int t_people, .int t_letters, .int t_lawTold, .ref t_hours, .ref t_kind, .ref t_master, .ref t_from, .ref t_to, .ref t_on, .ref t_told, .ref t_after, .ref t_worth, .ref t_by])), (t_told, .inl (kt_told, 49, .inl ft_told))] U.heap ∧ va_K (dC, dI) vwCl [(kt_told, .int)] U ∧ va_D (fun _ => True) [(t, .inr (7, [.int t_days, .int t_post, .int t_law, .int t_seed, .int t_lines, .int t_people, .int t_letters, .int t_lawTold, .ref t_hours, .ref t_kind, .ref t_master, .ref t_from, .ref t_to, .ref t_on, .ref t_told, .ref t_after, .ref t_worth, .ref t_by])), (t_told, .inl (kt_told, 49, .inl ft_told))])) (va_Qi (fun (r u : Int32) => r = u) (fun (u : Int32) (t9 : State) => ((0) ≤ u.toInt ∧ u.toInt ≤ 1) ∧ (u.toInt = 0 ∨ (0 ≤ a.toInt ∧ a.toInt < 48)) ∧ va_P (dC, dI) vwCl [(t, .inr (7, [.int t_days, .int t_post, .int t_law, .int t_seed, .int t_lines, .int t_people, .int t_letters, .int t_lawTold, .ref t_hours, .ref t_kind, .ref t_master, .ref t_from, .ref t_to, .ref t_on, .ref t_told, .ref t_after, .ref t_worth, .ref t_by])), (t_told, .inl (kt_told, 49, .inl ft_told))] t9.heap ∧ va_K (dC, dI) vwCl [] t9 ∧ va_D (va_A [(t, .inr (7, [.int t_days, .int t_post, .int t_law, .int t_seed, .int t_lines, .int t_people, .int t_letters, .int t_lawTold, .ref t_hours, .ref t_kind, .ref t_master, .ref t_from, .ref t_to, .ref t_on, .ref t_told, .ref t_after, .ref t_worth, .ref t_by])), (t_told, .inl (kt_told, 49, .inl ft_told))] sz) [(t, .inr (7, [.int t_days, .int t_post, .int t_law, .int t_seed, .int t_lines, .int t_people, .int t_letters, .int t_lawTold, .ref t_hours, .ref t_kind, .ref t_master, .ref t_from, .ref t_to, .ref t_on, .ref t_told, .ref t_after, .ref t_worth, .ref t_by])), (t_told, .inl (kt_told, 49, .inl ft_told))]) (va_A [(t, .inr (7, [.int t_days, .int t_post, .int t_law, .int t_seed, .int t_lines, .int t_people, .int t_letters, .int t_lawTold, .ref t_hours, .ref t_kind, .ref t_master, .ref t_from, .ref t_to, .ref t_on, .ref t_told, .ref t_after, .ref t_worth, .ref t_by])), (t_told, .inl (kt_told, 49, .inl ft_told))] sz)) 0 0 (va_A [(t, .inr (7, [.int t_days, .int t_post, .int t_law, .int t_seed, .int t_lines, .int t_people, .int t_letters, .int t_lawTold, .ref t_hours, .ref t_kind, .ref t_master, .ref t_from, .ref t_to, .ref t_on, .ref t_told, .ref t_after, .ref t_worth, .ref t_by])), (t_told, .inl (kt_told, 49, .inl ft_told))] sz) := by
  refine Met.ofW (cc := cX7_isLetter) (maxL := 2) (ret := (some .boolean)) (by decide) rfl ?_
  intro pr_ en_ s me_ args below meth c s₁ B hml hv
  obtain ⟨rfl, hsz, hP, hK, hD0⟩ := hv
  have hx := B.exec
  have hb := B.bytes
  have hr := B.returns
  have hts0 := atoms_spec (ws := (.code yX7_isLetter cX7_isLetter 2 (some .boolean) :: ALLW)) B.pre
  have hts := fun (w : Cond) (h : w ∈ ALLW) => hts0 w (List.mem_cons_of_mem _ h)
  have hown : s.vm.findClass RX7 = some me_.cls := findClass_of_methodNamed B.named
  have hlocks := B.notSynchronized
  subst hsz
  have hD := hD0.self (sz := s.heap.size)
  generalize hAe : va_A [(t, .inr (7, [.int t_days, .int t_post, .int t_law, .int t_seed, .int t_lines, .int t_people, .int t_letters, .int t_lawTold, .ref t_hours, .ref t_kind, .ref t_master, .ref t_from, .ref t_to, .ref t_on, .ref t_told, .ref t_after, .ref t_worth, .ref t_by])), (t_told, .inl (kt_told, 49, .inl ft_told))] s.heap.size = A at hD ⊢
  have hA : ∀ q : Nat, s.heap.size ≤ q → A q := fun q h => by rw [← hAe]; exact Or.inr h
  have hS : va_S A s.heap s.heap [] := va_S.rf
  have hP : va_P (dC, dI) vwCl [(t, .inr (7, [.int t_days, .int t_post, .int t_law, .int t_seed, .int t_lines, .int t_people, .int t_letters, .int t_lawTold, .ref t_hours, .ref t_kind, .ref t_master, .ref t_from, .ref t_to, .ref t_on, .ref t_told, .ref t_after, .ref t_worth, .ref t_by])), (t_told, .inl (kt_told, 49, .inl ft_told))] s.heap := hP
  have hl := lv_entry ([.ref t, .int a]) (n := 2) (Nat.le_of_ble_eq_true rfl)
  rw [lg_entry_eq]
  generalize (lg_sl ([.ref t, .int a]) ++ List.replicate (2 - (lg_sl ([.ref t, .int a])).length) Slot.unset).toArray = ls at hl ⊢
  have hl : lv_has ls 2 [(0, .ref t), (1, .int a)] := hl
  refine gQ (fun Q eQ => ?_)
  refine lv_aload_n hx hb dX7_isLetter_0 rfl (lv_at hl 0 rfl) ?_
  refine lv_iload_n hx hb dX7_isLetter_1 rfl (lv_at hl 1 rfl) ?_
  have hPc := hP.sub (ws' := [(t, .inr (7, [.int t_days, .int t_post, .int t_law, .int t_seed, .int t_lines, .int t_people, .int t_letters, .int t_lawTold, .ref t_hours, .ref t_kind, .ref t_master, .ref t_from, .ref t_to, .ref t_on, .ref t_told, .ref t_after, .ref t_worth, .ref t_by]))]) [0] rfl
  have hDc := hD.sub (ws' := [(t, .inr (7, [.int t_days, .int t_post, .int t_law, .int t_seed, .int t_lines, .int t_people, .int t_letters, .int t_lawTold, .ref t_hours, .ref t_kind, .ref t_master, .ref t_from, .ref t_to, .ref t_on, .ref t_told, .ref t_after, .ref t_worth, .ref t_by]))]) [0] (by decide) rfl
  have hKc := hK.sub (tys' := []) [] rfl
  have hFc := va_free (wc := [(t, .inr (7, [.int t_days, .int t_post, .int t_law, .int t_seed, .int t_lines, .int t_people, .int t_letters, .int t_lawTold, .ref t_hours, .ref t_kind, .ref t_master, .ref t_from, .ref t_to, .ref t_on, .ref t_told, .ref t_after, .ref t_worth, .ref t_by]))]) hD hS hA [0] rfl
  refine va_calli (va_runV (As := [.int a]) (rest := []) ⟨hx, hb, hml, hown, hts⟩ (t_isTold l dC dI s.heap.size t a t_days t_post t_law t_seed t_lines t_people t_letters t_lawTold t_hours t_kind t_master t_from t_to t_on t_told t_after t_worth t_by b_t_days b_t_post b_t_law b_t_people b_t_letters b_t_lawTold) (cwV 1 hts (goodV w_567 w_568 w_569 w_23 w_570) rfl rfl rfl hdV_X7_isTold ⟨Nat.le_of_ble_eq_true rfl, Nat.le_of_ble_eq_true rfl⟩) ⟨fun a U g mk q => by obtain ⟨q0, q1, qP, qK, qD⟩ := q; exact ⟨q0, q1, qP, va_K.moved (u := U) (U := U.calling g mk a) (Vm.Alike.refl U.vm) qK, qD⟩, va_recv hKc hPc (ci := 7) (q0 := 0) rfl rfl, fun U hU hW => ⟨rfl, by rw [hU], by rw [hU]; exact hPc, va_K.moved hW.alike hKc, hDc.weaken (fun _ _ _ _ => trivial)⟩⟩ rfl rfl hl.1 rfl (lv_room (Nat.le_of_ble_eq_true rfl)) dX7_isLetter_2 ⟨Nat.le_of_ble_eq_true rfl, Nat.le_of_ble_eq_true rfl⟩) hS (fun q _ h => hFc q h) hFc (fun r_1 u9 t9 H1 locs ht hvm hw hB hz1 hk1 hS => ?_)
  subst hw
  obtain ⟨b_r_1, hf_2, hP1, hK1, hD1⟩ := hB
  rw [ht] at hP1
  have hK1 := va_K.moved hvm.symm hK1
  obtain ⟨hP, hD⟩ := va_join (wr := [(t_told, .inl (kt_told, 49, .inl ft_told))]) (w1 := [(t, .inr (7, [.int t_days, .int t_post, .int t_law, .int t_seed, .int t_lines, .int t_people, .int t_letters, .int t_lawTold, .ref t_hours, .ref t_kind, .ref t_master, .ref t_from, .ref t_to, .ref t_on, .ref t_told, .ref t_after, .ref t_worth, .ref t_by]))]) hP hD [0] [1] rfl rfl (by decide) (by decide) hk1 hFc hP1 hD1
  clear hPc hDc hKc hFc hz1 hk1 hP1 hD1 hK1
  generalize H1 = H at hP hS ⊢
  have hP : va_P (dC, dI) vwCl [(t_told, .inl (kt_told, 49, .inl ft_told)), (t, .inr (7, [.int t_days, .int t_post, .int t_law, .int t_seed, .int t_lines, .int t_people, .int t_letters, .int t_lawTold, .ref t_hours, .ref t_kind, .ref t_master, .ref t_from, .ref t_to, .ref t_on, .ref t_told, .ref t_after, .ref t_worth, .ref t_by]))] H := hP
  have hD : va_D A [(t_told, .inl (kt_told, 49, .inl ft_told)), (t, .inr (7, [.int t_days, .int t_post, .int t_law, .int t_seed, .int t_lines, .int t_people, .int t_letters, .int t_lawTold, .ref t_hours, .ref t_kind, .ref t_master, .ref t_from, .ref t_to, .ref t_on, .ref t_told, .ref t_after, .ref t_worth, .ref t_by]))] := hD
  refine lv_if_ne (tgt := 29) hx hb dX7_isLetter_5 (by decide) (fun c_3 => ?_) (fun c_3 => ?_)
  · have ec_3 := q_ne (a := r_1.toInt) (b := 0) rfl (by decide) c_3
    have b_a : (0) ≤ a.toInt ∧ a.toInt ≤ 23 := ⟨by omega, by omega⟩
    refine lv_iconst (v := 1) hx hb dX7_isLetter_29 (by decide) ?_
    refine lv_goto (tgt := 34) hx hb dX7_isLetter_30 (by decide) ?_
    have z_4 : (1 : Int32).toInt = 1 := by decide
    have hP9 := hP.sub (ws' := [(t, .inr (7, [.int t_days, .int t_post, .int t_law, .int t_seed, .int t_lines, .int t_people, .int t_letters, .int t_lawTold, .ref t_hours, .ref t_kind, .ref t_master, .ref t_from, .ref t_to, .ref t_on, .ref t_told, .ref t_after, .ref t_worth, .ref t_by])), (t_told, .inl (kt_told, 49, .inl ft_told))]) [1, 0] rfl
    have hD9 := hD.sub (ws' := [(t, .inr (7, [.int t_days, .int t_post, .int t_law, .int t_seed, .int t_lines, .int t_people, .int t_letters, .int t_lawTold, .ref t_hours, .ref t_kind, .ref t_master, .ref t_from, .ref t_to, .ref t_on, .ref t_told, .ref t_after, .ref t_worth, .ref t_by])), (t_told, .inl (kt_told, 49, .inl ft_told))]) [1, 0] (by decide) rfl
    have hK9 := hK.sub (tys' := []) [] rfl
    refine gQe eQ ?_
    exact W.zret (v := 1) hx hb hr (by decide) (fun t9 ht hW => ⟨⟨1, 1, rfl, rfl, ⟨by decide, by decide⟩, (by omega), by rw [ht]; exact hP9, va_K.moved hW.alike hK9, hD9⟩, hS.F ht⟩) hS.2.2 dX7_isLetter_34
  · have ec_3 := q_nne (a := r_1.toInt) (b := 0) rfl (by decide) c_3
    refine lv_iload_n hx hb dX7_isLetter_8 rfl (lv_at hl 1 rfl) ?_
    refine lv_bipush (v := 24) hx hb dX7_isLetter_9 (by decide) ?_
    have rg_6 := q_rng a
    refine lv_icmp_lt (tgt := 33) hx hb dX7_isLetter_11 (by decide) (fun c_5 => ?_) (fun c_5 => ?_)
    · have ec_5 := q_lt (a := a.toInt) (b := 24) rfl (by decide) c_5
      refine lv_iconst (v := 0) hx hb dX7_isLetter_33 (by decide) ?_
      have z_7 : (0 : Int32).toInt = 0 := by decide
      have hP9 := hP.sub (ws' := [(t, .inr (7, [.int t_days, .int t_post, .int t_law, .int t_seed, .int t_lines, .int t_people, .int t_letters, .int t_lawTold, .ref t_hours, .ref t_kind, .ref t_master, .ref t_from, .ref t_to, .ref t_on, .ref t_told, .ref t_after, .ref t_worth, .ref t_by])), (t_told, .inl (kt_told, 49, .inl ft_told))]) [1, 0] rfl
      have hD9 := hD.sub (ws' := [(t, .inr (7, [.int t_days, .int t_post, .int t_law, .int t_seed, .int t_lines, .int t_people, .int t_letters, .int t_lawTold, .ref t_hours, .ref t_kind, .ref t_master, .ref t_from, .ref t_to, .ref t_on, .ref t_told, .ref t_after, .ref t_worth, .ref t_by])), (t_told, .inl (kt_told, 49, .inl ft_told))]) [1, 0] (by decide) rfl
      have hK9 := hK.sub (tys' := []) [] rfl
      refine gQe eQ ?_
      exact W.zret (v := 0) hx hb hr (by decide) (fun t9 ht hW => ⟨⟨0, 0, rfl, rfl, ⟨by decide, by decide⟩, (by omega), by rw [ht]; exact hP9, va_K.moved hW.alike hK9, hD9⟩, hS.F ht⟩) hS.2.2 dX7_isLetter_34
    · have ec_5 := q_nlt (a := a.toInt) (b := 24) rfl (by decide) c_5
      refine lv_iload_n hx hb dX7_isLetter_14 rfl (lv_at hl 1 rfl) ?_
      refine lv_bipush (v := 48) hx hb dX7_isLetter_15 (by decide) ?_
      refine lv_icmp_ge (tgt := 33) hx hb dX7_isLetter_17 (by decide) (fun c_8 => ?_) (fun c_8 => ?_)
      · have ec_8 := q_ge (a := a.toInt) (b := 48) rfl (by decide) c_8
        refine lv_iconst (v := 0) hx hb dX7_isLetter_33 (by decide) ?_
        have z_9 : (0 : Int32).toInt = 0 := by decide
        have hP9 := hP.sub (ws' := [(t, .inr (7, [.int t_days, .int t_post, .int t_law, .int t_seed, .int t_lines, .int t_people, .int t_letters, .int t_lawTold, .ref t_hours, .ref t_kind, .ref t_master, .ref t_from, .ref t_to, .ref t_on, .ref t_told, .ref t_after, .ref t_worth, .ref t_by])), (t_told, .inl (kt_told, 49, .inl ft_told))]) [1, 0] rfl
        have hD9 := hD.sub (ws' := [(t, .inr (7, [.int t_days, .int t_post, .int t_law, .int t_seed, .int t_lines, .int t_people, .int t_letters, .int t_lawTold, .ref t_hours, .ref t_kind, .ref t_master, .ref t_from, .ref t_to, .ref t_on, .ref t_told, .ref t_after, .ref t_worth, .ref t_by])), (t_told, .inl (kt_told, 49, .inl ft_told))]) [1, 0] (by decide) rfl
        have hK9 := hK.sub (tys' := []) [] rfl
        refine gQe eQ ?_
        exact W.zret (v := 0) hx hb hr (by decide) (fun t9 ht hW => ⟨⟨0, 0, rfl, rfl, ⟨by decide, by decide⟩, (by omega), by rw [ht]; exact hP9, va_K.moved hW.alike hK9, hD9⟩, hS.F ht⟩) hS.2.2 dX7_isLetter_34
      · have ec_8 := q_nge (a := a.toInt) (b := 48) rfl (by decide) c_8
        refine lv_aload_n hx hb dX7_isLetter_20 rfl (lv_at hl 0 rfl) ?_
        refine va_get (D := (dC, dI)) (ci := 7) (v := .ref t_told) (C := RX7) (T := TX7) (N := 18) hx hb hts inA7 hown hK hP 1 rfl rfl 14 (by decide) (hts _ w_91) (fun _ h9 => h9) rfl dX7_isLetter_21 ?_
        refine lv_iload_n hx hb dX7_isLetter_24 rfl (lv_at hl 1 rfl) ?_
        refine va_iald hx hb hK hP 0 0 rfl rfl (vp_in_iff.mpr ⟨by omega, by omega⟩) dX7_isLetter_25 ?_
        refine lv_topi (fun x_10 ex_10 => ?_)
        have rg_12 := q_rng x_10
        refine lv_if_le (tgt := 33) hx hb dX7_isLetter_26 (by decide) (fun c_11 => ?_) (fun c_11 => ?_)
        · have ec_11 := q_le (a := x_10.toInt) (b := 0) rfl (by decide) c_11
          refine lv_iconst (v := 0) hx hb dX7_isLetter_33 (by decide) ?_
          have z_13 : (0 : Int32).toInt = 0 := by decide
          have hP9 := hP.sub (ws' := [(t, .inr (7, [.int t_days, .int t_post, .int t_law, .int t_seed, .int t_lines, .int t_people, .int t_letters, .int t_lawTold, .ref t_hours, .ref t_kind, .ref t_master, .ref t_from, .ref t_to, .ref t_on, .ref t_told, .ref t_after, .ref t_worth, .ref t_by])), (t_told, .inl (kt_told, 49, .inl ft_told))]) [1, 0] rfl
          have hD9 := hD.sub (ws' := [(t, .inr (7, [.int t_days, .int t_post, .int t_law, .int t_seed, .int t_lines, .int t_people, .int t_letters, .int t_lawTold, .ref t_hours, .ref t_kind, .ref t_master, .ref t_from, .ref t_to, .ref t_on, .ref t_told, .ref t_after, .ref t_worth, .ref t_by])), (t_told, .inl (kt_told, 49, .inl ft_told))]) [1, 0] (by decide) rfl
          have hK9 := hK.sub (tys' := []) [] rfl
          refine gQe eQ ?_
          exact W.zret (v := 0) hx hb hr (by decide) (fun t9 ht hW => ⟨⟨0, 0, rfl, rfl, ⟨by decide, by decide⟩, (by omega), by rw [ht]; exact hP9, va_K.moved hW.alike hK9, hD9⟩, hS.F ht⟩) hS.2.2 dX7_isLetter_34
        · have ec_11 := q_nle (a := x_10.toInt) (b := 0) rfl (by decide) c_11
          refine lv_iconst (v := 1) hx hb dX7_isLetter_29 (by decide) ?_
          refine lv_goto (tgt := 34) hx hb dX7_isLetter_30 (by decide) ?_
          have z_14 : (1 : Int32).toInt = 1 := by decide
          have hP9 := hP.sub (ws' := [(t, .inr (7, [.int t_days, .int t_post, .int t_law, .int t_seed, .int t_lines, .int t_people, .int t_letters, .int t_lawTold, .ref t_hours, .ref t_kind, .ref t_master, .ref t_from, .ref t_to, .ref t_on, .ref t_told, .ref t_after, .ref t_worth, .ref t_by])), (t_told, .inl (kt_told, 49, .inl ft_told))]) [1, 0] rfl
          have hD9 := hD.sub (ws' := [(t, .inr (7, [.int t_days, .int t_post, .int t_law, .int t_seed, .int t_lines, .int t_people, .int t_letters, .int t_lawTold, .ref t_hours, .ref t_kind, .ref t_master, .ref t_from, .ref t_to, .ref t_on, .ref t_told, .ref t_after, .ref t_worth, .ref t_by])), (t_told, .inl (kt_told, 49, .inl ft_told))]) [1, 0] (by decide) rfl
          have hK9 := hK.sub (tys' := []) [] rfl
          refine gQe eQ ?_
          exact W.zret (v := 1) hx hb hr (by decide) (fun t9 ht hW => ⟨⟨1, 1, rfl, rfl, ⟨by decide, by decide⟩, (by omega), by rw [ht]; exact hP9, va_K.moved hW.alike hK9, hD9⟩, hS.F ht⟩) hS.2.2 dX7_isLetter_34
set_option maxHeartbeats 4000000 in
set_option maxRecDepth 100000 in
theorem t_hoursNeeded (l : Launch) (dC : Nat → ClassId) (dI : Nat → Nat → Nat) (sz : Nat) (t : Nat) (a : Int32) (t_days : Int32) (t_post : Int32) (t_law : Int32) (t_seed : Int32) (t_lines : Int32) (t_people : Int32) (t_letters : Int32) (t_lawTold : Int32) (t_hours : Nat) (t_kind : Nat) (t_master : Nat) (t_from : Nat) (t_to : Nat) (t_on : Nat) (t_told : Nat) (t_after : Nat) (t_worth : Nat) (t_by : Nat) (kt_told : ClassId) (ft_told : Nat → Int32) (kt_to : ClassId) (ft_to : Nat → Int32) (kt_kind : ClassId) (ft_kind : Nat → Int32) (kt_worth : ClassId) (ft_worth : Nat → Int32) (b_a : (0) ≤ a.toInt ∧ a.toInt ≤ 48) (b_t_days : (0) ≤ t_days.toInt ∧ t_days.toInt ≤ 40) (b_t_post : (0) ≤ t_post.toInt ∧ t_post.toInt ≤ 9) (b_t_law : (0) ≤ t_law.toInt ∧ t_law.toInt ≤ 3) (b_t_people : (0) ≤ t_people.toInt ∧ t_people.toInt ≤ 8) (b_t_letters : (0) ≤ t_letters.toInt ∧ t_letters.toInt ≤ 24) (b_t_lawTold : (0) ≤ t_lawTold.toInt ∧ t_lawTold.toInt ≤ 1) (g_ft_to : bd (0) (7) ft_to) : Met l yX7_hoursNeeded (.code yX7_hoursNeeded cX7_hoursNeeded 3 (some .int) :: ALLW) ({ frames := 0, cells := 0, slots := 0, locals := 0 }) (va_Pc [.ref t, .int a] (fun U => U.heap.size = sz ∧ va_P (dC, dI) vwCl [(t, .inr (7, [.int t_days, .int t_post, .int t_law, .int t_seed, .int t_lines, .int t_people, .int t_letters, .int t_lawTold, .ref t_hours, .ref t_kind, .ref t_master, .ref t_from, .ref t_to, .ref t_on, .ref t_told, .ref t_after, .ref t_worth, .ref t_by])), (t_told, .inl (kt_told, 49, .inl ft_told)), (t_to, .inl (kt_to, 49, .inl ft_to)), (t_kind, .inl (kt_kind, 8, .inl ft_kind)), (t_worth, .inl (kt_worth, 49, .inl ft_worth))] U.heap ∧ va_K (dC, dI) vwCl [(kt_told, .int), (kt_to, .int), (kt_kind, .int), (kt_worth, .int)] U ∧ va_D (fun _ => True) [(t, .inr (7, [.int t_days, .int t_post, .int t_law, .int t_seed, .int t_lines, .int t_people, .int t_letters, .int t_lawTold, .ref t_hours, .ref t_kind, .ref t_master, .ref t_from, .ref t_to, .ref t_on, .ref t_told, .ref t_after, .ref t_worth, .ref t_by])), (t_told, .inl (kt_told, 49, .inl ft_told)), (t_to, .inl (kt_to, 49, .inl ft_to)), (t_kind, .inl (kt_kind, 8, .inl ft_kind)), (t_worth, .inl (kt_worth, 49, .inl ft_worth))])) (va_Qi (fun (r u : Int32) => r = u) (fun (u : Int32) (t9 : State) => va_P (dC, dI) vwCl [(t, .inr (7, [.int t_days, .int t_post, .int t_law, .int t_seed, .int t_lines, .int t_people, .int t_letters, .int t_lawTold, .ref t_hours, .ref t_kind, .ref t_master, .ref t_from, .ref t_to, .ref t_on, .ref t_told, .ref t_after, .ref t_worth, .ref t_by])), (t_told, .inl (kt_told, 49, .inl ft_told)), (t_to, .inl (kt_to, 49, .inl ft_to)), (t_kind, .inl (kt_kind, 8, .inl ft_kind)), (t_worth, .inl (kt_worth, 49, .inl ft_worth))] t9.heap ∧ va_K (dC, dI) vwCl [] t9 ∧ va_D (va_A [(t, .inr (7, [.int t_days, .int t_post, .int t_law, .int t_seed, .int t_lines, .int t_people, .int t_letters, .int t_lawTold, .ref t_hours, .ref t_kind, .ref t_master, .ref t_from, .ref t_to, .ref t_on, .ref t_told, .ref t_after, .ref t_worth, .ref t_by])), (t_told, .inl (kt_told, 49, .inl ft_told)), (t_to, .inl (kt_to, 49, .inl ft_to)), (t_kind, .inl (kt_kind, 8, .inl ft_kind)), (t_worth, .inl (kt_worth, 49, .inl ft_worth))] sz) [(t, .inr (7, [.int t_days, .int t_post, .int t_law, .int t_seed, .int t_lines, .int t_people, .int t_letters, .int t_lawTold, .ref t_hours, .ref t_kind, .ref t_master, .ref t_from, .ref t_to, .ref t_on, .ref t_told, .ref t_after, .ref t_worth, .ref t_by])), (t_told, .inl (kt_told, 49, .inl ft_told)), (t_to, .inl (kt_to, 49, .inl ft_to)), (t_kind, .inl (kt_kind, 8, .inl ft_kind)), (t_worth, .inl (kt_worth, 49, .inl ft_worth))]) (va_A [(t, .inr (7, [.int t_days, .int t_post, .int t_law, .int t_seed, .int t_lines, .int t_people, .int t_letters, .int t_lawTold, .ref t_hours, .ref t_kind, .ref t_master, .ref t_from, .ref t_to, .ref t_on, .ref t_told, .ref t_after, .ref t_worth, .ref t_by])), (t_told, .inl (kt_told, 49, .inl ft_told)), (t_to, .inl (kt_to, 49, .inl ft_to)), (t_kind, .inl (kt_kind, 8, .inl ft_kind)), (t_worth, .inl (kt_worth, 49, .inl ft_worth))] sz)) 0 0 (va_A [(t, .inr (7, [.int t_days, .int t_post, .int t_law, .int t_seed, .int t_lines, .int t_people, .int t_letters, .int t_lawTold, .ref t_hours, .ref t_kind, .ref t_master, .ref t_from, .ref t_to, .ref t_on, .ref t_told, .ref t_after, .ref t_worth, .ref t_by])), (t_told, .inl (kt_told, 49, .inl ft_told)), (t_to, .inl (kt_to, 49, .inl ft_to)), (t_kind, .inl (kt_kind, 8, .inl ft_kind)), (t_worth, .inl (kt_worth, 49, .inl ft_worth))] sz) := by
  refine Met.ofW (cc := cX7_hoursNeeded) (maxL := 3) (ret := (some .int)) (by decide) rfl ?_
  intro pr_ en_ s me_ args below meth c s₁ B hml hv
  obtain ⟨rfl, hsz, hP, hK, hD0⟩ := hv
  have hx := B.exec
  have hb := B.bytes
  have hr := B.returns
  have hts0 := atoms_spec (ws := (.code yX7_hoursNeeded cX7_hoursNeeded 3 (some .int) :: ALLW)) B.pre
  have hts := fun (w : Cond) (h : w ∈ ALLW) => hts0 w (List.mem_cons_of_mem _ h)
  have hown : s.vm.findClass RX7 = some me_.cls := findClass_of_methodNamed B.named
  have hlocks := B.notSynchronized
  subst hsz
  have hD := hD0.self (sz := s.heap.size)
  generalize hAe : va_A [(t, .inr (7, [.int t_days, .int t_post, .int t_law, .int t_seed, .int t_lines, .int t_people, .int t_letters, .int t_lawTold, .ref t_hours, .ref t_kind, .ref t_master, .ref t_from, .ref t_to, .ref t_on, .ref t_told, .ref t_after, .ref t_worth, .ref t_by])), (t_told, .inl (kt_told, 49, .inl ft_told)), (t_to, .inl (kt_to, 49, .inl ft_to)), (t_kind, .inl (kt_kind, 8, .inl ft_kind)), (t_worth, .inl (kt_worth, 49, .inl ft_worth))] s.heap.size = A at hD ⊢
  have hA : ∀ q : Nat, s.heap.size ≤ q → A q := fun q h => by rw [← hAe]; exact Or.inr h
  have hS : va_S A s.heap s.heap [] := va_S.rf
  have hP : va_P (dC, dI) vwCl [(t, .inr (7, [.int t_days, .int t_post, .int t_law, .int t_seed, .int t_lines, .int t_people, .int t_letters, .int t_lawTold, .ref t_hours, .ref t_kind, .ref t_master, .ref t_from, .ref t_to, .ref t_on, .ref t_told, .ref t_after, .ref t_worth, .ref t_by])), (t_told, .inl (kt_told, 49, .inl ft_told)), (t_to, .inl (kt_to, 49, .inl ft_to)), (t_kind, .inl (kt_kind, 8, .inl ft_kind)), (t_worth, .inl (kt_worth, 49, .inl ft_worth))] s.heap := hP
  have hl := lv_entry ([.ref t, .int a]) (n := 3) (Nat.le_of_ble_eq_true rfl)
  rw [lg_entry_eq]
  generalize (lg_sl ([.ref t, .int a]) ++ List.replicate (3 - (lg_sl ([.ref t, .int a])).length) Slot.unset).toArray = ls at hl ⊢
  have hl : lv_has ls 3 [(0, .ref t), (1, .int a)] := hl
  refine gQ (fun Q eQ => ?_)
  refine lv_aload_n hx hb dX7_hoursNeeded_0 rfl (lv_at hl 0 rfl) ?_
  refine va_get (D := (dC, dI)) (ci := 7) (v := .ref t_told) (C := RX7) (T := TX7) (N := 18) hx hb hts inA7 hown hK hP 0 rfl rfl 14 (by decide) (hts _ w_91) (fun _ h9 => h9) rfl dX7_hoursNeeded_1 ?_
  refine lv_iload_n hx hb dX7_hoursNeeded_4 rfl (lv_at hl 1 rfl) ?_
  refine va_iald hx hb hK hP 1 0 rfl rfl (vp_in_iff.mpr ⟨Int.le_trans (by decide) b_a.1, Int.lt_of_le_of_lt b_a.2 (by decide)⟩) dX7_hoursNeeded_5 ?_
  refine lv_topi (fun x_1 ex_1 => ?_)
  refine lv_istore_n (lv' := [(2, .int x_1), (0, .ref t), (1, .int a)]) hx hb dX7_hoursNeeded_6 rfl hl (by decide) rfl (fun ls hl => ?_)
  refine lv_aload_n hx hb dX7_hoursNeeded_7 rfl (lv_at hl 1 rfl) ?_
  refine va_get (D := (dC, dI)) (ci := 7) (v := .ref t_kind) (C := RX7) (T := TX7) (N := 18) hx hb hts inA7 hown hK hP 0 rfl rfl 9 (by decide) (hts _ w_86) (fun _ h9 => h9) rfl dX7_hoursNeeded_8 ?_
  refine lv_aload_n hx hb dX7_hoursNeeded_11 rfl (lv_at hl 1 rfl) ?_
  refine va_get (D := (dC, dI)) (ci := 7) (v := .ref t_to) (C := RX7) (T := TX7) (N := 18) hx hb hts inA7 hown hK hP 0 rfl rfl 12 (by decide) (hts _ w_89) (fun _ h9 => h9) rfl dX7_hoursNeeded_12 ?_
  refine lv_iload_n hx hb dX7_hoursNeeded_15 rfl (lv_at hl 2 rfl) ?_
  refine va_iald hx hb hK hP 2 1 rfl rfl (vp_in_iff.mpr ⟨Int.le_trans (by decide) b_a.1, Int.lt_of_le_of_lt b_a.2 (by decide)⟩) dX7_hoursNeeded_16 ?_
  refine lv_topi (fun x_2 ex_2 => ?_)
  have b_x_2 := bd.at g_ft_to ex_2
  refine va_iald hx hb hK hP 3 2 rfl rfl (vp_in_iff.mpr ⟨Int.le_trans (by decide) b_x_2.1, Int.lt_of_le_of_lt b_x_2.2 (by decide)⟩) dX7_hoursNeeded_17 ?_
  refine lv_topi (fun x_3 ex_3 => ?_)
  rcases (show x_3.toInt = 1 ∨ x_3.toInt = 3 ∨ (x_3.toInt ≠ 1 ∧ x_3.toInt ≠ 3) by omega) with h_4 | h_4 | h_4
  · refine lv_lookup (off := 26) (tgt := 44) hx hb dX7_hoursNeeded_18 (by decide) (by rw [h_4]; rfl) (by decide) ?_
    refine lv_iload_n hx hb dX7_hoursNeeded_44 rfl (lv_at hl 0 rfl) ?_
    refine lv_iconst (v := 1) hx hb dX7_hoursNeeded_45 (by decide) ?_
    refine lv_iadd hx hb dX7_hoursNeeded_46 ?_
    refine lv_topi (fun x_5 ex_5 => ?_)
    refine lv_iconst (v := 2) hx hb dX7_hoursNeeded_47 (by decide) ?_
    refine lv_idiv hx hb dX7_hoursNeeded_48 (by decide) ?_
    refine lv_topi (fun x_6 ex_6 => ?_)
    have hP9 := hP.sub (ws' := [(t, .inr (7, [.int t_days, .int t_post, .int t_law, .int t_seed, .int t_lines, .int t_people, .int t_letters, .int t_lawTold, .ref t_hours, .ref t_kind, .ref t_master, .ref t_from, .ref t_to, .ref t_on, .ref t_told, .ref t_after, .ref t_worth, .ref t_by])), (t_told, .inl (kt_told, 49, .inl ft_told)), (t_to, .inl (kt_to, 49, .inl ft_to)), (t_kind, .inl (kt_kind, 8, .inl ft_kind)), (t_worth, .inl (kt_worth, 49, .inl ft_worth))]) [0, 1, 2, 3, 4] rfl
    have hD9 := hD.sub (ws' := [(t, .inr (7, [.int t_days, .int t_post, .int t_law, .int t_seed, .int t_lines, .int t_people, .int t_letters, .int t_lawTold, .ref t_hours, .ref t_kind, .ref t_master, .ref t_from, .ref t_to, .ref t_on, .ref t_told, .ref t_after, .ref t_worth, .ref t_by])), (t_told, .inl (kt_told, 49, .inl ft_told)), (t_to, .inl (kt_to, 49, .inl ft_to)), (t_kind, .inl (kt_kind, 8, .inl ft_kind)), (t_worth, .inl (kt_worth, 49, .inl ft_worth))]) [0, 1, 2, 3, 4] (by decide) rfl
    have hK9 := hK.sub (tys' := []) [] rfl
    refine gQe eQ ?_
    exact W.iret (v := x_6) hx hb hr (fun t9 ht hW => ⟨⟨x_6, x_6, rfl, rfl, by rw [ht]; exact hP9, va_K.moved hW.alike hK9, hD9⟩, hS.F ht⟩) hS.2.2 dX7_hoursNeeded_49
  · refine lv_lookup (off := 32) (tgt := 50) hx hb dX7_hoursNeeded_18 (by decide) (by rw [h_4]; rfl) (by decide) ?_
    refine lv_aload_n hx hb dX7_hoursNeeded_50 rfl (lv_at hl 1 rfl) ?_
    refine va_get (D := (dC, dI)) (ci := 7) (v := .ref t_worth) (C := RX7) (T := TX7) (N := 18) hx hb hts inA7 hown hK hP 0 rfl rfl 16 (by decide) (hts _ w_93) (fun _ h9 => h9) rfl dX7_hoursNeeded_51 ?_
    refine lv_iload_n hx hb dX7_hoursNeeded_54 rfl (lv_at hl 2 rfl) ?_
    refine va_iald hx hb hK hP 4 3 rfl rfl (vp_in_iff.mpr ⟨Int.le_trans (by decide) b_a.1, Int.lt_of_le_of_lt b_a.2 (by decide)⟩) dX7_hoursNeeded_55 ?_
    refine lv_topi (fun x_7 ex_7 => ?_)
    refine lv_bipush (v := 50) hx hb dX7_hoursNeeded_56 (by decide) ?_
    have rg_9 := q_rng x_7
    refine lv_icmp_lt (tgt := 67) hx hb dX7_hoursNeeded_58 (by decide) (fun c_8 => ?_) (fun c_8 => ?_)
    · have ec_8 := q_lt (a := x_7.toInt) (b := 50) rfl (by decide) c_8
      refine lv_iload_n hx hb dX7_hoursNeeded_67 rfl (lv_at hl 0 rfl) ?_
      have hP9 := hP.sub (ws' := [(t, .inr (7, [.int t_days, .int t_post, .int t_law, .int t_seed, .int t_lines, .int t_people, .int t_letters, .int t_lawTold, .ref t_hours, .ref t_kind, .ref t_master, .ref t_from, .ref t_to, .ref t_on, .ref t_told, .ref t_after, .ref t_worth, .ref t_by])), (t_told, .inl (kt_told, 49, .inl ft_told)), (t_to, .inl (kt_to, 49, .inl ft_to)), (t_kind, .inl (kt_kind, 8, .inl ft_kind)), (t_worth, .inl (kt_worth, 49, .inl ft_worth))]) [0, 1, 2, 3, 4] rfl
      have hD9 := hD.sub (ws' := [(t, .inr (7, [.int t_days, .int t_post, .int t_law, .int t_seed, .int t_lines, .int t_people, .int t_letters, .int t_lawTold, .ref t_hours, .ref t_kind, .ref t_master, .ref t_from, .ref t_to, .ref t_on, .ref t_told, .ref t_after, .ref t_worth, .ref t_by])), (t_told, .inl (kt_told, 49, .inl ft_told)), (t_to, .inl (kt_to, 49, .inl ft_to)), (t_kind, .inl (kt_kind, 8, .inl ft_kind)), (t_worth, .inl (kt_worth, 49, .inl ft_worth))]) [0, 1, 2, 3, 4] (by decide) rfl
      have hK9 := hK.sub (tys' := []) [] rfl
      refine gQe eQ ?_
      exact W.iret (v := x_1) hx hb hr (fun t9 ht hW => ⟨⟨x_1, x_1, rfl, rfl, by rw [ht]; exact hP9, va_K.moved hW.alike hK9, hD9⟩, hS.F ht⟩) hS.2.2 dX7_hoursNeeded_68
    · have ec_8 := q_nlt (a := x_7.toInt) (b := 50) rfl (by decide) c_8
      refine lv_iconst (v := 2) hx hb dX7_hoursNeeded_61 (by decide) ?_
      refine lv_iload_n hx hb dX7_hoursNeeded_62 rfl (lv_at hl 0 rfl) ?_
      refine lv_imul hx hb dX7_hoursNeeded_63 ?_
      refine lv_topi (fun x_10 ex_10 => ?_)
      refine lv_goto (tgt := 68) hx hb dX7_hoursNeeded_64 (by decide) ?_
      have hP9 := hP.sub (ws' := [(t, .inr (7, [.int t_days, .int t_post, .int t_law, .int t_seed, .int t_lines, .int t_people, .int t_letters, .int t_lawTold, .ref t_hours, .ref t_kind, .ref t_master, .ref t_from, .ref t_to, .ref t_on, .ref t_told, .ref t_after, .ref t_worth, .ref t_by])), (t_told, .inl (kt_told, 49, .inl ft_told)), (t_to, .inl (kt_to, 49, .inl ft_to)), (t_kind, .inl (kt_kind, 8, .inl ft_kind)), (t_worth, .inl (kt_worth, 49, .inl ft_worth))]) [0, 1, 2, 3, 4] rfl
      have hD9 := hD.sub (ws' := [(t, .inr (7, [.int t_days, .int t_post, .int t_law, .int t_seed, .int t_lines, .int t_people, .int t_letters, .int t_lawTold, .ref t_hours, .ref t_kind, .ref t_master, .ref t_from, .ref t_to, .ref t_on, .ref t_told, .ref t_after, .ref t_worth, .ref t_by])), (t_told, .inl (kt_told, 49, .inl ft_told)), (t_to, .inl (kt_to, 49, .inl ft_to)), (t_kind, .inl (kt_kind, 8, .inl ft_kind)), (t_worth, .inl (kt_worth, 49, .inl ft_worth))]) [0, 1, 2, 3, 4] (by decide) rfl
      have hK9 := hK.sub (tys' := []) [] rfl
      refine gQe eQ ?_
      exact W.iret (v := x_10) hx hb hr (fun t9 ht hW => ⟨⟨x_10, x_10, rfl, rfl, by rw [ht]; exact hP9, va_K.moved hW.alike hK9, hD9⟩, hS.F ht⟩) hS.2.2 dX7_hoursNeeded_68
  · refine lv_lookup (off := 51) (tgt := 69) hx hb dX7_hoursNeeded_18 (by decide) (q_osw2 (by omega) (by omega) ) (by decide) ?_
    refine lv_iload_n hx hb dX7_hoursNeeded_69 rfl (lv_at hl 0 rfl) ?_
    have hP9 := hP.sub (ws' := [(t, .inr (7, [.int t_days, .int t_post, .int t_law, .int t_seed, .int t_lines, .int t_people, .int t_letters, .int t_lawTold, .ref t_hours, .ref t_kind, .ref t_master, .ref t_from, .ref t_to, .ref t_on, .ref t_told, .ref t_after, .ref t_worth, .ref t_by])), (t_told, .inl (kt_told, 49, .inl ft_told)), (t_to, .inl (kt_to, 49, .inl ft_to)), (t_kind, .inl (kt_kind, 8, .inl ft_kind)), (t_worth, .inl (kt_worth, 49, .inl ft_worth))]) [0, 1, 2, 3, 4] rfl
    have hD9 := hD.sub (ws' := [(t, .inr (7, [.int t_days, .int t_post, .int t_law, .int t_seed, .int t_lines, .int t_people, .int t_letters, .int t_lawTold, .ref t_hours, .ref t_kind, .ref t_master, .ref t_from, .ref t_to, .ref t_on, .ref t_told, .ref t_after, .ref t_worth, .ref t_by])), (t_told, .inl (kt_told, 49, .inl ft_told)), (t_to, .inl (kt_to, 49, .inl ft_to)), (t_kind, .inl (kt_kind, 8, .inl ft_kind)), (t_worth, .inl (kt_worth, 49, .inl ft_worth))]) [0, 1, 2, 3, 4] (by decide) rfl
    have hK9 := hK.sub (tys' := []) [] rfl
    refine gQe eQ ?_
    exact W.iret (v := x_1) hx hb hr (fun t9 ht hW => ⟨⟨x_1, x_1, rfl, rfl, by rw [ht]; exact hP9, va_K.moved hW.alike hK9, hD9⟩, hS.F ht⟩) hS.2.2 dX7_hoursNeeded_70
set_option maxHeartbeats 4000000 in
set_option maxRecDepth 100000 in
theorem t_giveBack (l : Launch) (dC : Nat → ClassId) (dI : Nat → Nat → Nat) (sz : Nat) (t : Nat) (a : Int32) (b : Int32) (t_days : Int32) (t_post : Int32) (t_law : Int32) (t_seed : Int32) (t_lines : Int32) (t_people : Int32) (t_letters : Int32) (t_lawTold : Int32) (t_hours : Nat) (t_kind : Nat) (t_master : Nat) (t_from : Nat) (t_to : Nat) (t_on : Nat) (t_told : Nat) (t_after : Nat) (t_worth : Nat) (t_by : Nat) (kt_to : ClassId) (ft_to : Nat → Int32) (kt_from : ClassId) (ft_from : Nat → Int32) (kt_told : ClassId) (ft_told : Nat → Int32) (b_a : (0) ≤ a.toInt ∧ a.toInt ≤ 23) (b_t_days : (0) ≤ t_days.toInt ∧ t_days.toInt ≤ 40) (b_t_post : (0) ≤ t_post.toInt ∧ t_post.toInt ≤ 9) (b_t_law : (0) ≤ t_law.toInt ∧ t_law.toInt ≤ 3) (b_t_people : (0) ≤ t_people.toInt ∧ t_people.toInt ≤ 8) (b_t_letters : (0) ≤ t_letters.toInt ∧ t_letters.toInt ≤ 24) (b_t_lawTold : (0) ≤ t_lawTold.toInt ∧ t_lawTold.toInt ≤ 1) (g_ft_to : bd (0) (7) ft_to) (g_ft_from : bd (0) (7) ft_from) : Met l yX7_giveBack (.code yX7_giveBack cX7_giveBack 4 none :: ALLW) ({ frames := 0, cells := 0, slots := 0, locals := 0 }) (va_Pc [.ref t, .int a, .int b] (fun U => U.heap.size = sz ∧ va_P (dC, dI) vwCl [(t, .inr (7, [.int t_days, .int t_post, .int t_law, .int t_seed, .int t_lines, .int t_people, .int t_letters, .int t_lawTold, .ref t_hours, .ref t_kind, .ref t_master, .ref t_from, .ref t_to, .ref t_on, .ref t_told, .ref t_after, .ref t_worth, .ref t_by])), (t_to, .inl (kt_to, 49, .inl ft_to)), (t_from, .inl (kt_from, 49, .inl ft_from)), (t_told, .inl (kt_told, 49, .inl ft_told))] U.heap ∧ va_K (dC, dI) vwCl [(kt_to, .int), (kt_from, .int), (kt_told, .int)] U ∧ va_D (fun _ => True) [(t, .inr (7, [.int t_days, .int t_post, .int t_law, .int t_seed, .int t_lines, .int t_people, .int t_letters, .int t_lawTold, .ref t_hours, .ref t_kind, .ref t_master, .ref t_from, .ref t_to, .ref t_on, .ref t_told, .ref t_after, .ref t_worth, .ref t_by])), (t_to, .inl (kt_to, 49, .inl ft_to)), (t_from, .inl (kt_from, 49, .inl ft_from)), (t_told, .inl (kt_told, 49, .inl ft_told))])) (va_Qv (fun _ : Unit => True) (fun (_ : Unit) (t9 : State) => ∃ (ft_toz : Nat → Int32) (ft_fromz : Nat → Int32) (ft_toldz : Nat → Int32), (bd (0) (7) ft_toz) ∧ (bd (0) (7) ft_fromz) ∧ va_P (dC, dI) vwCl [(t, .inr (7, [.int t_days, .int t_post, .int t_law, .int t_seed, .int t_lines, .int t_people, .int t_letters, .int t_lawTold, .ref t_hours, .ref t_kind, .ref t_master, .ref t_from, .ref t_to, .ref t_on, .ref t_told, .ref t_after, .ref t_worth, .ref t_by])), (t_to, .inl (kt_to, 49, .inl ft_toz)), (t_from, .inl (kt_from, 49, .inl ft_fromz)), (t_told, .inl (kt_told, 49, .inl ft_toldz))] t9.heap ∧ va_K (dC, dI) vwCl [] t9 ∧ va_D (va_A [(t, .inr (7, [.int t_days, .int t_post, .int t_law, .int t_seed, .int t_lines, .int t_people, .int t_letters, .int t_lawTold, .ref t_hours, .ref t_kind, .ref t_master, .ref t_from, .ref t_to, .ref t_on, .ref t_told, .ref t_after, .ref t_worth, .ref t_by])), (t_to, .inl (kt_to, 49, .inl ft_to)), (t_from, .inl (kt_from, 49, .inl ft_from)), (t_told, .inl (kt_told, 49, .inl ft_told))] sz) [(t, .inr (7, [.int t_days, .int t_post, .int t_law, .int t_seed, .int t_lines, .int t_people, .int t_letters, .int t_lawTold, .ref t_hours, .ref t_kind, .ref t_master, .ref t_from, .ref t_to, .ref t_on, .ref t_told, .ref t_after, .ref t_worth, .ref t_by])), (t_to, .inl (kt_to, 49, .inl ft_toz)), (t_from, .inl (kt_from, 49, .inl ft_fromz)), (t_told, .inl (kt_told, 49, .inl ft_toldz))]) (va_A [(t, .inr (7, [.int t_days, .int t_post, .int t_law, .int t_seed, .int t_lines, .int t_people, .int t_letters, .int t_lawTold, .ref t_hours, .ref t_kind, .ref t_master, .ref t_from, .ref t_to, .ref t_on, .ref t_told, .ref t_after, .ref t_worth, .ref t_by])), (t_to, .inl (kt_to, 49, .inl ft_to)), (t_from, .inl (kt_from, 49, .inl ft_from)), (t_told, .inl (kt_told, 49, .inl ft_told))] sz)) 0 0 (va_A [(t, .inr (7, [.int t_days, .int t_post, .int t_law, .int t_seed, .int t_lines, .int t_people, .int t_letters, .int t_lawTold, .ref t_hours, .ref t_kind, .ref t_master, .ref t_from, .ref t_to, .ref t_on, .ref t_told, .ref t_after, .ref t_worth, .ref t_by])), (t_to, .inl (kt_to, 49, .inl ft_to)), (t_from, .inl (kt_from, 49, .inl ft_from)), (t_told, .inl (kt_told, 49, .inl ft_told))] sz) := by
  refine Met.ofW (cc := cX7_giveBack) (maxL := 4) (ret := none) (by decide) rfl ?_
  intro pr_ en_ s me_ args below meth c s₁ B hml hv
  obtain ⟨rfl, hsz, hP, hK, hD0⟩ := hv
  have hx := B.exec
  have hb := B.bytes
  have hr := B.returns
  have hts0 := atoms_spec (ws := (.code yX7_giveBack cX7_giveBack 4 none :: ALLW)) B.pre
  have hts := fun (w : Cond) (h : w ∈ ALLW) => hts0 w (List.mem_cons_of_mem _ h)
  have hown : s.vm.findClass RX7 = some me_.cls := findClass_of_methodNamed B.named
  have hlocks := B.notSynchronized
  subst hsz
  have hD := hD0.self (sz := s.heap.size)
  generalize hAe : va_A [(t, .inr (7, [.int t_days, .int t_post, .int t_law, .int t_seed, .int t_lines, .int t_people, .int t_letters, .int t_lawTold, .ref t_hours, .ref t_kind, .ref t_master, .ref t_from, .ref t_to, .ref t_on, .ref t_told, .ref t_after, .ref t_worth, .ref t_by])), (t_to, .inl (kt_to, 49, .inl ft_to)), (t_from, .inl (kt_from, 49, .inl ft_from)), (t_told, .inl (kt_told, 49, .inl ft_told))] s.heap.size = A at hD ⊢
  have hA : ∀ q : Nat, s.heap.size ≤ q → A q := fun q h => by rw [← hAe]; exact Or.inr h
  have hS : va_S A s.heap s.heap [] := va_S.rf
  have hP : va_P (dC, dI) vwCl [(t, .inr (7, [.int t_days, .int t_post, .int t_law, .int t_seed, .int t_lines, .int t_people, .int t_letters, .int t_lawTold, .ref t_hours, .ref t_kind, .ref t_master, .ref t_from, .ref t_to, .ref t_on, .ref t_told, .ref t_after, .ref t_worth, .ref t_by])), (t_to, .inl (kt_to, 49, .inl ft_to)), (t_from, .inl (kt_from, 49, .inl ft_from)), (t_told, .inl (kt_told, 49, .inl ft_told))] s.heap := hP
  have hl := lv_entry ([.ref t, .int a, .int b]) (n := 4) (Nat.le_of_ble_eq_true rfl)
  rw [lg_entry_eq]
  generalize (lg_sl ([.ref t, .int a, .int b]) ++ List.replicate (4 - (lg_sl ([.ref t, .int a, .int b])).length) Slot.unset).toArray = ls at hl ⊢
  have hl : lv_has ls 4 [(0, .ref t), (1, .int a), (2, .int b)] := hl
  refine gQ (fun Q eQ => ?_)
  refine lv_iload_n hx hb dX7_giveBack_0 rfl (lv_at hl 1 rfl) ?_
  refine lv_bipush (v := 24) hx hb dX7_giveBack_1 (by decide) ?_
  refine lv_iadd hx hb dX7_giveBack_3 ?_
  refine lv_topi (fun x_1 ex_1 => ?_)
  have b_x_1 := q_add (a := a.toInt) (b := 24) ex_1 rfl (by decide) (by omega) (by omega)
  refine lv_istore_n (lv' := [(3, .int x_1), (0, .ref t), (1, .int a), (2, .int b)]) hx hb dX7_giveBack_4 rfl hl (by decide) rfl (fun ls hl => ?_)
  refine lv_aload_n hx hb dX7_giveBack_5 rfl (lv_at hl 1 rfl) ?_
  refine va_get (D := (dC, dI)) (ci := 7) (v := .ref t_from) (C := RX7) (T := TX7) (N := 18) hx hb hts inA7 hown hK hP 0 rfl rfl 11 (by decide) (hts _ w_88) (fun _ h9 => h9) rfl dX7_giveBack_6 ?_
  refine lv_iload_n hx hb dX7_giveBack_9 rfl (lv_at hl 0 rfl) ?_
  refine lv_aload_n hx hb dX7_giveBack_10 rfl (lv_at hl 1 rfl) ?_
  refine va_get (D := (dC, dI)) (ci := 7) (v := .ref t_to) (C := RX7) (T := TX7) (N := 18) hx hb hts inA7 hown hK hP 0 rfl rfl 12 (by decide) (hts _ w_89) (fun _ h9 => h9) rfl dX7_giveBack_11 ?_
  refine lv_iload_n hx hb dX7_giveBack_14 rfl (lv_at hl 2 rfl) ?_
  refine va_iald hx hb hK hP 1 0 rfl rfl (vp_in_iff.mpr ⟨Int.le_trans (by decide) b_a.1, Int.lt_of_le_of_lt b_a.2 (by decide)⟩) dX7_giveBack_15 ?_
  refine lv_topi (fun x_2 ex_2 => ?_)
  have b_x_2 := bd.at g_ft_to ex_2
  refine va_iast hx hb hK hP hD hS 2 1 rfl rfl (vp_in_iff.mpr ⟨by omega, by omega⟩) dX7_giveBack_16 (fun H locs hP hD hS => ?_)
  have g_f_3 := bd_upd (k := (x_1 : Int32).toNatClampNeg) (x := x_2) (a := x_2.toInt) g_ft_from rfl (by omega) (by omega)
  generalize ef_3 : upd ft_from (x_1 : Int32).toNatClampNeg x_2 = f_3 at hP hD g_f_3
  have hP : va_P (dC, dI) vwCl [(t, .inr (7, [.int t_days, .int t_post, .int t_law, .int t_seed, .int t_lines, .int t_people, .int t_letters, .int t_lawTold, .ref t_hours, .ref t_kind, .ref t_master, .ref t_from, .ref t_to, .ref t_on, .ref t_told, .ref t_after, .ref t_worth, .ref t_by])), (t_to, .inl (kt_to, 49, .inl ft_to)), (t_from, .inl (kt_from, 49, .inl f_3)), (t_told, .inl (kt_told, 49, .inl ft_told))] H := hP
  have hD : va_D A [(t, .inr (7, [.int t_days, .int t_post, .int t_law, .int t_seed, .int t_lines, .int t_people, .int t_letters, .int t_lawTold, .ref t_hours, .ref t_kind, .ref t_master, .ref t_from, .ref t_to, .ref t_on, .ref t_told, .ref t_after, .ref t_worth, .ref t_by])), (t_to, .inl (kt_to, 49, .inl ft_to)), (t_from, .inl (kt_from, 49, .inl f_3)), (t_told, .inl (kt_told, 49, .inl ft_told))] := hD
  refine lv_aload_n hx hb dX7_giveBack_17 rfl (lv_at hl 1 rfl) ?_
  refine va_get (D := (dC, dI)) (ci := 7) (v := .ref t_to) (C := RX7) (T := TX7) (N := 18) hx hb hts inA7 hown hK hP 0 rfl rfl 12 (by decide) (hts _ w_89) (fun _ h9 => h9) rfl dX7_giveBack_18 ?_
  refine lv_iload_n hx hb dX7_giveBack_21 rfl (lv_at hl 0 rfl) ?_
  refine lv_aload_n hx hb dX7_giveBack_22 rfl (lv_at hl 1 rfl) ?_
  refine va_get (D := (dC, dI)) (ci := 7) (v := .ref t_from) (C := RX7) (T := TX7) (N := 18) hx hb hts inA7 hown hK hP 0 rfl rfl 11 (by decide) (hts _ w_88) (fun _ h9 => h9) rfl dX7_giveBack_23 ?_
  refine lv_iload_n hx hb dX7_giveBack_26 rfl (lv_at hl 2 rfl) ?_
  refine va_iald hx hb hK hP 2 1 rfl rfl (vp_in_iff.mpr ⟨Int.le_trans (by decide) b_a.1, Int.lt_of_le_of_lt b_a.2 (by decide)⟩) dX7_giveBack_27 ?_
  refine lv_topi (fun x_4 ex_4 => ?_)
  have b_x_4 := bd.at g_f_3 ex_4
  refine va_iast hx hb hK hP hD hS 1 0 rfl rfl (vp_in_iff.mpr ⟨by omega, by omega⟩) dX7_giveBack_28 (fun H locs hP hD hS => ?_)
  have g_f_5 := bd_upd (k := (x_1 : Int32).toNatClampNeg) (x := x_4) (a := x_4.toInt) g_ft_to rfl (by omega) (by omega)
  generalize ef_5 : upd ft_to (x_1 : Int32).toNatClampNeg x_4 = f_5 at hP hD g_f_5
  have hP : va_P (dC, dI) vwCl [(t, .inr (7, [.int t_days, .int t_post, .int t_law, .int t_seed, .int t_lines, .int t_people, .int t_letters, .int t_lawTold, .ref t_hours, .ref t_kind, .ref t_master, .ref t_from, .ref t_to, .ref t_on, .ref t_told, .ref t_after, .ref t_worth, .ref t_by])), (t_to, .inl (kt_to, 49, .inl f_5)), (t_from, .inl (kt_from, 49, .inl f_3)), (t_told, .inl (kt_told, 49, .inl ft_told))] H := hP
  have hD : va_D A [(t, .inr (7, [.int t_days, .int t_post, .int t_law, .int t_seed, .int t_lines, .int t_people, .int t_letters, .int t_lawTold, .ref t_hours, .ref t_kind, .ref t_master, .ref t_from, .ref t_to, .ref t_on, .ref t_told, .ref t_after, .ref t_worth, .ref t_by])), (t_to, .inl (kt_to, 49, .inl f_5)), (t_from, .inl (kt_from, 49, .inl f_3)), (t_told, .inl (kt_told, 49, .inl ft_told))] := hD
  refine lv_aload_n hx hb dX7_giveBack_29 rfl (lv_at hl 1 rfl) ?_
  refine va_get (D := (dC, dI)) (ci := 7) (v := .ref t_told) (C := RX7) (T := TX7) (N := 18) hx hb hts inA7 hown hK hP 0 rfl rfl 14 (by decide) (hts _ w_91) (fun _ h9 => h9) rfl dX7_giveBack_30 ?_
  refine lv_iload_n hx hb dX7_giveBack_33 rfl (lv_at hl 0 rfl) ?_
  refine lv_iload_n hx hb dX7_giveBack_34 rfl (lv_at hl 3 rfl) ?_
  refine va_iast hx hb hK hP hD hS 3 2 rfl rfl (vp_in_iff.mpr ⟨by omega, by omega⟩) dX7_giveBack_35 (fun H locs hP hD hS => ?_)
  generalize ef_6 : upd ft_told (x_1 : Int32).toNatClampNeg b = f_6 at hP hD
  have hP : va_P (dC, dI) vwCl [(t, .inr (7, [.int t_days, .int t_post, .int t_law, .int t_seed, .int t_lines, .int t_people, .int t_letters, .int t_lawTold, .ref t_hours, .ref t_kind, .ref t_master, .ref t_from, .ref t_to, .ref t_on, .ref t_told, .ref t_after, .ref t_worth, .ref t_by])), (t_to, .inl (kt_to, 49, .inl f_5)), (t_from, .inl (kt_from, 49, .inl f_3)), (t_told, .inl (kt_told, 49, .inl f_6))] H := hP
  have hD : va_D A [(t, .inr (7, [.int t_days, .int t_post, .int t_law, .int t_seed, .int t_lines, .int t_people, .int t_letters, .int t_lawTold, .ref t_hours, .ref t_kind, .ref t_master, .ref t_from, .ref t_to, .ref t_on, .ref t_told, .ref t_after, .ref t_worth, .ref t_by])), (t_to, .inl (kt_to, 49, .inl f_5)), (t_from, .inl (kt_from, 49, .inl f_3)), (t_told, .inl (kt_told, 49, .inl f_6))] := hD
  have hP9 := hP.sub (ws' := [(t, .inr (7, [.int t_days, .int t_post, .int t_law, .int t_seed, .int t_lines, .int t_people, .int t_letters, .int t_lawTold, .ref t_hours, .ref t_kind, .ref t_master, .ref t_from, .ref t_to, .ref t_on, .ref t_told, .ref t_after, .ref t_worth, .ref t_by])), (t_to, .inl (kt_to, 49, .inl f_5)), (t_from, .inl (kt_from, 49, .inl f_3)), (t_told, .inl (kt_told, 49, .inl f_6))]) [0, 1, 2, 3] rfl
  have hD9 := hD.sub (ws' := [(t, .inr (7, [.int t_days, .int t_post, .int t_law, .int t_seed, .int t_lines, .int t_people, .int t_letters, .int t_lawTold, .ref t_hours, .ref t_kind, .ref t_master, .ref t_from, .ref t_to, .ref t_on, .ref t_told, .ref t_after, .ref t_worth, .ref t_by])), (t_to, .inl (kt_to, 49, .inl f_5)), (t_from, .inl (kt_from, 49, .inl f_3)), (t_told, .inl (kt_told, 49, .inl f_6))]) [0, 1, 2, 3] (by decide) rfl
  have hK9 := hK.sub (tys' := []) [] rfl
  refine gQe eQ ?_
  exact W.vret hx hb hr (fun t9 ht hW => ⟨⟨(), rfl, trivial, f_5, f_3, f_6, g_f_5, g_f_3, by rw [ht]; exact hP9, va_K.moved hW.alike hK9, hD9⟩, hS.F ht⟩) hS.2.2 dX7_giveBack_36
