set_option maxHeartbeats 4000000 in
set_option maxRecDepth 100000 in
theorem d_isBlank (l : Launch) (dC : Nat → ClassId) (dI : Nat → Nat → Nat) (sz : Nat) (a : Int32)  : Met l yX3_isBlank (.code yX3_isBlank cX3_isBlank 1 (some .boolean) :: ALLW) ({ frames := 0, cells := 0, slots := 0, locals := 0 }) (va_Pc [.int a] (fun U => U.heap.size = sz ∧ va_P (dC, dI) vwCl [] U.heap ∧ va_K (dC, dI) vwCl [] U ∧ va_D (fun _ => True) [])) (va_Qi (fun (r u : Int32) => r = u) (fun (u : Int32) (t9 : State) => ((0) ≤ u.toInt ∧ u.toInt ≤ 1) ∧ va_P (dC, dI) vwCl [] t9.heap ∧ va_K (dC, dI) vwCl [] t9 ∧ va_D (va_A [] sz) []) (va_A [] sz)) 0 0 (va_A [] sz) := by
  refine Met.ofW (cc := cX3_isBlank) (maxL := 1) (ret := (some .boolean)) (by decide) rfl ?_
  intro pr_ en_ s me_ args below meth c s₁ B hml hv
  obtain ⟨rfl, hsz, hP, hK, hD0⟩ := hv
  have hx := B.exec
  have hb := B.bytes
  have hr := B.returns
  have hts0 := atoms_spec (ws := (.code yX3_isBlank cX3_isBlank 1 (some .boolean) :: ALLW)) B.pre
  have hts := fun (w : Cond) (h : w ∈ ALLW) => hts0 w (List.mem_cons_of_mem _ h)
  have hown : s.vm.findClass RX3 = some me_.cls := findClass_of_methodNamed B.named
  have hlocks := B.notSynchronized
  subst hsz
  have hD := hD0.self (sz := s.heap.size)
  generalize hAe : va_A [] s.heap.size = A at hD ⊢
  have hA : ∀ q : Nat, s.heap.size ≤ q → A q := fun q h => by rw [← hAe]; exact Or.inr h
  have hS : va_S A s.heap s.heap [] := va_S.rf
  have hP : va_P (dC, dI) vwCl [] s.heap := hP
  have hl := lv_entry ([.int a]) (n := 1) (Nat.le_of_ble_eq_true rfl)
  rw [lg_entry_eq]
  generalize (lg_sl ([.int a]) ++ List.replicate (1 - (lg_sl ([.int a])).length) Slot.unset).toArray = ls at hl ⊢
  have hl : lv_has ls 1 [(0, .int a)] := hl
  refine gQ (fun Q eQ => ?_)
  refine lv_iload_n hx hb dX3_isBlank_0 rfl (lv_at hl 0 rfl) ?_
  refine lv_bipush (v := 32) hx hb dX3_isBlank_1 (by decide) ?_
  have rg_2 := q_rng a
  refine lv_icmp_eq (tgt := 12) hx hb dX3_isBlank_3 (by decide) (fun c_1 => ?_) (fun c_1 => ?_)
  · have ec_1 := q_eq (a := a.toInt) (b := 32) rfl (by decide) c_1
    refine lv_iconst (v := 1) hx hb dX3_isBlank_12 (by decide) ?_
    refine lv_goto (tgt := 17) hx hb dX3_isBlank_13 (by decide) ?_
    have z_3 : (1 : Int32).toInt = 1 := by decide
    have hP9 := hP.sub (ws' := []) [] rfl
    have hD9 := hD.sub (ws' := []) [] (by decide) rfl
    have hK9 := hK.sub (tys' := []) [] rfl
    refine gQe eQ ?_
    exact W.zret (v := 1) hx hb hr (by decide) (fun t9 ht hW => ⟨⟨1, 1, rfl, rfl, ⟨by decide, by decide⟩, by rw [ht]; exact hP9, va_K.moved hW.alike hK9, hD9⟩, hS.F ht⟩) hS.2.2 dX3_isBlank_17
  · have ec_1 := q_neq (a := a.toInt) (b := 32) rfl (by decide) c_1
    refine lv_iload_n hx hb dX3_isBlank_6 rfl (lv_at hl 0 rfl) ?_
    refine lv_bipush (v := 10) hx hb dX3_isBlank_7 (by decide) ?_
    have rg_5 := q_rng a
    refine lv_icmp_ne (tgt := 16) hx hb dX3_isBlank_9 (by decide) (fun c_4 => ?_) (fun c_4 => ?_)
    · have ec_4 := q_ne (a := a.toInt) (b := 10) rfl (by decide) c_4
      refine lv_iconst (v := 0) hx hb dX3_isBlank_16 (by decide) ?_
      have z_6 : (0 : Int32).toInt = 0 := by decide
      have hP9 := hP.sub (ws' := []) [] rfl
      have hD9 := hD.sub (ws' := []) [] (by decide) rfl
      have hK9 := hK.sub (tys' := []) [] rfl
      refine gQe eQ ?_
      exact W.zret (v := 0) hx hb hr (by decide) (fun t9 ht hW => ⟨⟨0, 0, rfl, rfl, ⟨by decide, by decide⟩, by rw [ht]; exact hP9, va_K.moved hW.alike hK9, hD9⟩, hS.F ht⟩) hS.2.2 dX3_isBlank_17
    · have ec_4 := q_nne (a := a.toInt) (b := 10) rfl (by decide) c_4
      refine lv_iconst (v := 1) hx hb dX3_isBlank_12 (by decide) ?_
      refine lv_goto (tgt := 17) hx hb dX3_isBlank_13 (by decide) ?_
      have z_7 : (1 : Int32).toInt = 1 := by decide
      have hP9 := hP.sub (ws' := []) [] rfl
      have hD9 := hD.sub (ws' := []) [] (by decide) rfl
      have hK9 := hK.sub (tys' := []) [] rfl
      refine gQe eQ ?_
      exact W.zret (v := 1) hx hb hr (by decide) (fun t9 ht hW => ⟨⟨1, 1, rfl, rfl, ⟨by decide, by decide⟩, by rw [ht]; exact hP9, va_K.moved hW.alike hK9, hD9⟩, hS.F ht⟩) hS.2.2 dX3_isBlank_17
set_option maxHeartbeats 4000000 in
set_option maxRecDepth 100000 in
theorem d_isSmall (l : Launch) (dC : Nat → ClassId) (dI : Nat → Nat → Nat) (sz : Nat) (a : Int32)  : Met l yX3_isSmall (.code yX3_isSmall cX3_isSmall 1 (some .boolean) :: ALLW) ({ frames := 0, cells := 0, slots := 0, locals := 0 }) (va_Pc [.int a] (fun U => U.heap.size = sz ∧ va_P (dC, dI) vwCl [] U.heap ∧ va_K (dC, dI) vwCl [] U ∧ va_D (fun _ => True) [])) (va_Qi (fun (r u : Int32) => r = u) (fun (u : Int32) (t9 : State) => ((0) ≤ u.toInt ∧ u.toInt ≤ 1) ∧ va_P (dC, dI) vwCl [] t9.heap ∧ va_K (dC, dI) vwCl [] t9 ∧ va_D (va_A [] sz) []) (va_A [] sz)) 0 0 (va_A [] sz) := by
  refine Met.ofW (cc := cX3_isSmall) (maxL := 1) (ret := (some .boolean)) (by decide) rfl ?_
  intro pr_ en_ s me_ args below meth c s₁ B hml hv
  obtain ⟨rfl, hsz, hP, hK, hD0⟩ := hv
  have hx := B.exec
  have hb := B.bytes
  have hr := B.returns
  have hts0 := atoms_spec (ws := (.code yX3_isSmall cX3_isSmall 1 (some .boolean) :: ALLW)) B.pre
  have hts := fun (w : Cond) (h : w ∈ ALLW) => hts0 w (List.mem_cons_of_mem _ h)
  have hown : s.vm.findClass RX3 = some me_.cls := findClass_of_methodNamed B.named
  have hlocks := B.notSynchronized
  subst hsz
  have hD := hD0.self (sz := s.heap.size)
  generalize hAe : va_A [] s.heap.size = A at hD ⊢
  have hA : ∀ q : Nat, s.heap.size ≤ q → A q := fun q h => by rw [← hAe]; exact Or.inr h
  have hS : va_S A s.heap s.heap [] := va_S.rf
  have hP : va_P (dC, dI) vwCl [] s.heap := hP
  have hl := lv_entry ([.int a]) (n := 1) (Nat.le_of_ble_eq_true rfl)
  rw [lg_entry_eq]
  generalize (lg_sl ([.int a]) ++ List.replicate (1 - (lg_sl ([.int a])).length) Slot.unset).toArray = ls at hl ⊢
  have hl : lv_has ls 1 [(0, .int a)] := hl
  refine gQ (fun Q eQ => ?_)
  refine lv_iload_n hx hb dX3_isSmall_0 rfl (lv_at hl 0 rfl) ?_
  refine lv_bipush (v := 97) hx hb dX3_isSmall_1 (by decide) ?_
  have rg_2 := q_rng a
  refine lv_icmp_lt (tgt := 16) hx hb dX3_isSmall_3 (by decide) (fun c_1 => ?_) (fun c_1 => ?_)
  · have ec_1 := q_lt (a := a.toInt) (b := 97) rfl (by decide) c_1
    refine lv_iconst (v := 0) hx hb dX3_isSmall_16 (by decide) ?_
    have z_3 : (0 : Int32).toInt = 0 := by decide
    have hP9 := hP.sub (ws' := []) [] rfl
    have hD9 := hD.sub (ws' := []) [] (by decide) rfl
    have hK9 := hK.sub (tys' := []) [] rfl
    refine gQe eQ ?_
    exact W.zret (v := 0) hx hb hr (by decide) (fun t9 ht hW => ⟨⟨0, 0, rfl, rfl, ⟨by decide, by decide⟩, by rw [ht]; exact hP9, va_K.moved hW.alike hK9, hD9⟩, hS.F ht⟩) hS.2.2 dX3_isSmall_17
  · have ec_1 := q_nlt (a := a.toInt) (b := 97) rfl (by decide) c_1
    refine lv_iload_n hx hb dX3_isSmall_6 rfl (lv_at hl 0 rfl) ?_
    refine lv_bipush (v := 122) hx hb dX3_isSmall_7 (by decide) ?_
    refine lv_icmp_gt (tgt := 16) hx hb dX3_isSmall_9 (by decide) (fun c_4 => ?_) (fun c_4 => ?_)
    · have ec_4 := q_gt (a := a.toInt) (b := 122) rfl (by decide) c_4
      refine lv_iconst (v := 0) hx hb dX3_isSmall_16 (by decide) ?_
      have z_5 : (0 : Int32).toInt = 0 := by decide
      have hP9 := hP.sub (ws' := []) [] rfl
      have hD9 := hD.sub (ws' := []) [] (by decide) rfl
      have hK9 := hK.sub (tys' := []) [] rfl
      refine gQe eQ ?_
      exact W.zret (v := 0) hx hb hr (by decide) (fun t9 ht hW => ⟨⟨0, 0, rfl, rfl, ⟨by decide, by decide⟩, by rw [ht]; exact hP9, va_K.moved hW.alike hK9, hD9⟩, hS.F ht⟩) hS.2.2 dX3_isSmall_17
    · have ec_4 := q_ngt (a := a.toInt) (b := 122) rfl (by decide) c_4
      refine lv_iconst (v := 1) hx hb dX3_isSmall_12 (by decide) ?_
      refine lv_goto (tgt := 17) hx hb dX3_isSmall_13 (by decide) ?_
      have z_6 : (1 : Int32).toInt = 1 := by decide
      have hP9 := hP.sub (ws' := []) [] rfl
      have hD9 := hD.sub (ws' := []) [] (by decide) rfl
      have hK9 := hK.sub (tys' := []) [] rfl
      refine gQe eQ ?_
      exact W.zret (v := 1) hx hb hr (by decide) (fun t9 ht hW => ⟨⟨1, 1, rfl, rfl, ⟨by decide, by decide⟩, by rw [ht]; exact hP9, va_K.moved hW.alike hK9, hD9⟩, hS.F ht⟩) hS.2.2 dX3_isSmall_17
set_option maxHeartbeats 4000000 in
set_option maxRecDepth 100000 in
theorem d_isDigit (l : Launch) (dC : Nat → ClassId) (dI : Nat → Nat → Nat) (sz : Nat) (a : Int32)  : Met l yX3_isDigit (.code yX3_isDigit cX3_isDigit 1 (some .boolean) :: ALLW) ({ frames := 0, cells := 0, slots := 0, locals := 0 }) (va_Pc [.int a] (fun U => U.heap.size = sz ∧ va_P (dC, dI) vwCl [] U.heap ∧ va_K (dC, dI) vwCl [] U ∧ va_D (fun _ => True) [])) (va_Qi (fun (r u : Int32) => r = u) (fun (u : Int32) (t9 : State) => ((0) ≤ u.toInt ∧ u.toInt ≤ 1) ∧ (u.toInt = 0 ∨ (48 ≤ a.toInt ∧ a.toInt ≤ 57)) ∧ va_P (dC, dI) vwCl [] t9.heap ∧ va_K (dC, dI) vwCl [] t9 ∧ va_D (va_A [] sz) []) (va_A [] sz)) 0 0 (va_A [] sz) := by
  refine Met.ofW (cc := cX3_isDigit) (maxL := 1) (ret := (some .boolean)) (by decide) rfl ?_
  intro pr_ en_ s me_ args below meth c s₁ B hml hv
  obtain ⟨rfl, hsz, hP, hK, hD0⟩ := hv
  have hx := B.exec
  have hb := B.bytes
  have hr := B.returns
  have hts0 := atoms_spec (ws := (.code yX3_isDigit cX3_isDigit 1 (some .boolean) :: ALLW)) B.pre
  have hts := fun (w : Cond) (h : w ∈ ALLW) => hts0 w (List.mem_cons_of_mem _ h)
  have hown : s.vm.findClass RX3 = some me_.cls := findClass_of_methodNamed B.named
  have hlocks := B.notSynchronized
  subst hsz
  have hD := hD0.self (sz := s.heap.size)
  generalize hAe : va_A [] s.heap.size = A at hD ⊢
  have hA : ∀ q : Nat, s.heap.size ≤ q → A q := fun q h => by rw [← hAe]; exact Or.inr h
  have hS : va_S A s.heap s.heap [] := va_S.rf
  have hP : va_P (dC, dI) vwCl [] s.heap := hP
  have hl := lv_entry ([.int a]) (n := 1) (Nat.le_of_ble_eq_true rfl)
  rw [lg_entry_eq]
  generalize (lg_sl ([.int a]) ++ List.replicate (1 - (lg_sl ([.int a])).length) Slot.unset).toArray = ls at hl ⊢
  have hl : lv_has ls 1 [(0, .int a)] := hl
  refine gQ (fun Q eQ => ?_)
  refine lv_iload_n hx hb dX3_isDigit_0 rfl (lv_at hl 0 rfl) ?_
  refine lv_bipush (v := 48) hx hb dX3_isDigit_1 (by decide) ?_
  have rg_2 := q_rng a
  refine lv_icmp_lt (tgt := 16) hx hb dX3_isDigit_3 (by decide) (fun c_1 => ?_) (fun c_1 => ?_)
  · have ec_1 := q_lt (a := a.toInt) (b := 48) rfl (by decide) c_1
    refine lv_iconst (v := 0) hx hb dX3_isDigit_16 (by decide) ?_
    have z_3 : (0 : Int32).toInt = 0 := by decide
    have hP9 := hP.sub (ws' := []) [] rfl
    have hD9 := hD.sub (ws' := []) [] (by decide) rfl
    have hK9 := hK.sub (tys' := []) [] rfl
    refine gQe eQ ?_
    exact W.zret (v := 0) hx hb hr (by decide) (fun t9 ht hW => ⟨⟨0, 0, rfl, rfl, ⟨by decide, by decide⟩, (by omega), by rw [ht]; exact hP9, va_K.moved hW.alike hK9, hD9⟩, hS.F ht⟩) hS.2.2 dX3_isDigit_17
  · have ec_1 := q_nlt (a := a.toInt) (b := 48) rfl (by decide) c_1
    refine lv_iload_n hx hb dX3_isDigit_6 rfl (lv_at hl 0 rfl) ?_
    refine lv_bipush (v := 57) hx hb dX3_isDigit_7 (by decide) ?_
    refine lv_icmp_gt (tgt := 16) hx hb dX3_isDigit_9 (by decide) (fun c_4 => ?_) (fun c_4 => ?_)
    · have ec_4 := q_gt (a := a.toInt) (b := 57) rfl (by decide) c_4
      refine lv_iconst (v := 0) hx hb dX3_isDigit_16 (by decide) ?_
      have z_5 : (0 : Int32).toInt = 0 := by decide
      have hP9 := hP.sub (ws' := []) [] rfl
      have hD9 := hD.sub (ws' := []) [] (by decide) rfl
      have hK9 := hK.sub (tys' := []) [] rfl
      refine gQe eQ ?_
      exact W.zret (v := 0) hx hb hr (by decide) (fun t9 ht hW => ⟨⟨0, 0, rfl, rfl, ⟨by decide, by decide⟩, (by omega), by rw [ht]; exact hP9, va_K.moved hW.alike hK9, hD9⟩, hS.F ht⟩) hS.2.2 dX3_isDigit_17
    · have ec_4 := q_ngt (a := a.toInt) (b := 57) rfl (by decide) c_4
      refine lv_iconst (v := 1) hx hb dX3_isDigit_12 (by decide) ?_
      refine lv_goto (tgt := 17) hx hb dX3_isDigit_13 (by decide) ?_
      have z_6 : (1 : Int32).toInt = 1 := by decide
      have hP9 := hP.sub (ws' := []) [] rfl
      have hD9 := hD.sub (ws' := []) [] (by decide) rfl
      have hK9 := hK.sub (tys' := []) [] rfl
      refine gQe eQ ?_
      exact W.zret (v := 1) hx hb hr (by decide) (fun t9 ht hW => ⟨⟨1, 1, rfl, rfl, ⟨by decide, by decide⟩, (by omega), by rw [ht]; exact hP9, va_K.moved hW.alike hK9, hD9⟩, hS.F ht⟩) hS.2.2 dX3_isDigit_17
set_option maxHeartbeats 4000000 in
set_option maxRecDepth 100000 in
theorem d_fail (l : Launch) (dC : Nat → ClassId) (dI : Nat → Nat → Nat) (sz : Nat) (d : Nat) (a : Int32) (d_tape : Nat) (d_town : Nat) (d_token : Int32) (d_start : Int32) (d_next : Int32) (d_value : Int32) (d_fault : Int32) (d_faultPlace : Int32) (b_d_value : (0) ≤ d_value.toInt ∧ d_value.toInt ≤ 1000000) : Met l yX3_fail (.code yX3_fail cX3_fail 2 (some .boolean) :: ALLW) ({ frames := 0, cells := 0, slots := 0, locals := 0 }) (va_Pc [.ref d, .int a] (fun U => U.heap.size = sz ∧ va_P (dC, dI) vwCl [(d, .inr (3, [.ref d_tape, .ref d_town, .int d_token, .int d_start, .int d_next, .int d_value, .int d_fault, .int d_faultPlace]))] U.heap ∧ va_K (dC, dI) vwCl [] U ∧ va_D (fun _ => True) [(d, .inr (3, [.ref d_tape, .ref d_town, .int d_token, .int d_start, .int d_next, .int d_value, .int d_fault, .int d_faultPlace]))])) (va_Qi (fun (r u : Int32) => r = u) (fun (u : Int32) (t9 : State) => ∃ (d_faultz : Int32) (d_faultPlacez : Int32), ((0) ≤ u.toInt ∧ u.toInt ≤ 0) ∧ va_P (dC, dI) vwCl [(d, .inr (3, [.ref d_tape, .ref d_town, .int d_token, .int d_start, .int d_next, .int d_value, .int d_faultz, .int d_faultPlacez]))] t9.heap ∧ va_K (dC, dI) vwCl [] t9 ∧ va_D (va_A [(d, .inr (3, [.ref d_tape, .ref d_town, .int d_token, .int d_start, .int d_next, .int d_value, .int d_fault, .int d_faultPlace]))] sz) [(d, .inr (3, [.ref d_tape, .ref d_town, .int d_token, .int d_start, .int d_next, .int d_value, .int d_faultz, .int d_faultPlacez]))]) (va_A [(d, .inr (3, [.ref d_tape, .ref d_town, .int d_token, .int d_start, .int d_next, .int d_value, .int d_fault, .int d_faultPlace]))] sz)) 0 0 (va_A [(d, .inr (3, [.ref d_tape, .ref d_town, .int d_token, .int d_start, .int d_next, .int d_value, .int d_fault, .int d_faultPlace]))] sz) := by
  refine Met.ofW (cc := cX3_fail) (maxL := 2) (ret := (some .boolean)) (by decide) rfl ?_
  intro pr_ en_ s me_ args below meth c s₁ B hml hv
  obtain ⟨rfl, hsz, hP, hK, hD0⟩ := hv
  have hx := B.exec
  have hb := B.bytes
  have hr := B.returns
  have hts0 := atoms_spec (ws := (.code yX3_fail cX3_fail 2 (some .boolean) :: ALLW)) B.pre
  have hts := fun (w : Cond) (h : w ∈ ALLW) => hts0 w (List.mem_cons_of_mem _ h)
  have hown : s.vm.findClass RX3 = some me_.cls := findClass_of_methodNamed B.named
  have hlocks := B.notSynchronized
  subst hsz
  have hD := hD0.self (sz := s.heap.size)
  generalize hAe : va_A [(d, .inr (3, [.ref d_tape, .ref d_town, .int d_token, .int d_start, .int d_next, .int d_value, .int d_fault, .int d_faultPlace]))] s.heap.size = A at hD ⊢
  have hA : ∀ q : Nat, s.heap.size ≤ q → A q := fun q h => by rw [← hAe]; exact Or.inr h
  have hS : va_S A s.heap s.heap [] := va_S.rf
  have hP : va_P (dC, dI) vwCl [(d, .inr (3, [.ref d_tape, .ref d_town, .int d_token, .int d_start, .int d_next, .int d_value, .int d_fault, .int d_faultPlace]))] s.heap := hP
  have hl := lv_entry ([.ref d, .int a]) (n := 2) (Nat.le_of_ble_eq_true rfl)
  rw [lg_entry_eq]
  generalize (lg_sl ([.ref d, .int a]) ++ List.replicate (2 - (lg_sl ([.ref d, .int a])).length) Slot.unset).toArray = ls at hl ⊢
  have hl : lv_has ls 2 [(0, .ref d), (1, .int a)] := hl
  refine gQ (fun Q eQ => ?_)
  refine lv_aload_n hx hb dX3_fail_0 rfl (lv_at hl 0 rfl) ?_
  refine lv_iload_n hx hb dX3_fail_1 rfl (lv_at hl 1 rfl) ?_
  refine va_put (D := (dC, dI)) (ci := 3) (v := .int a) (ty := tyX3 6) (C := RX3) (T := TX3) (N := 8) hx hb hts inA3 tyX3 tyX3_ok nmX3 hown hK hP hD hS 0 rfl rfl 6 (by decide) (hts _ w_70) (fun _ h9 => h9) rfl (tyX3_ok 6 (by decide)) rfl rfl (Nat.le_of_ble_eq_true rfl) dX3_fail_2 (fun H locs hP hD hS => ?_)
  have hP : va_P (dC, dI) vwCl [(d, .inr (3, [.ref d_tape, .ref d_town, .int d_token, .int d_start, .int d_next, .int d_value, .int a, .int d_faultPlace]))] H := hP
  have hD : va_D A [(d, .inr (3, [.ref d_tape, .ref d_town, .int d_token, .int d_start, .int d_next, .int d_value, .int a, .int d_faultPlace]))] := hD
  refine lv_aload_n hx hb dX3_fail_5 rfl (lv_at hl 0 rfl) ?_
  refine lv_aload_n hx hb dX3_fail_6 rfl (lv_at hl 0 rfl) ?_
  refine va_get (D := (dC, dI)) (ci := 3) (v := .int d_start) (C := RX3) (T := TX3) (N := 8) hx hb hts inA3 hown hK hP 0 rfl rfl 3 (by decide) (hts _ w_67) (fun _ h9 => h9) rfl dX3_fail_7 ?_
  refine va_put (D := (dC, dI)) (ci := 3) (v := .int d_start) (ty := tyX3 7) (C := RX3) (T := TX3) (N := 8) hx hb hts inA3 tyX3 tyX3_ok nmX3 hown hK hP hD hS 0 rfl rfl 7 (by decide) (hts _ w_71) (fun _ h9 => h9) rfl (tyX3_ok 7 (by decide)) rfl rfl (Nat.le_of_ble_eq_true rfl) dX3_fail_10 (fun H locs hP hD hS => ?_)
  have hP : va_P (dC, dI) vwCl [(d, .inr (3, [.ref d_tape, .ref d_town, .int d_token, .int d_start, .int d_next, .int d_value, .int a, .int d_start]))] H := hP
  have hD : va_D A [(d, .inr (3, [.ref d_tape, .ref d_town, .int d_token, .int d_start, .int d_next, .int d_value, .int a, .int d_start]))] := hD
  refine lv_iconst (v := 0) hx hb dX3_fail_13 (by decide) ?_
  have z_1 : (0 : Int32).toInt = 0 := by decide
  have hP9 := hP.sub (ws' := [(d, .inr (3, [.ref d_tape, .ref d_town, .int d_token, .int d_start, .int d_next, .int d_value, .int a, .int d_start]))]) [0] rfl
  have hD9 := hD.sub (ws' := [(d, .inr (3, [.ref d_tape, .ref d_town, .int d_token, .int d_start, .int d_next, .int d_value, .int a, .int d_start]))]) [0] (by decide) rfl
  have hK9 := hK.sub (tys' := []) [] rfl
  refine gQe eQ ?_
  exact W.zret (v := 0) hx hb hr (by decide) (fun t9 ht hW => ⟨⟨0, 0, rfl, rfl, a, d_start, ⟨by decide, by decide⟩, by rw [ht]; exact hP9, va_K.moved hW.alike hK9, hD9⟩, hS.F ht⟩) hS.2.2 dX3_fail_14
set_option maxHeartbeats 4000000 in
set_option maxRecDepth 100000 in
theorem d_step (l : Launch) (dC : Nat → ClassId) (dI : Nat → Nat → Nat) (sz : Nat) (d : Nat) (d_tape : Nat) (d_town : Nat) (d_token : Int32) (d_start : Int32) (d_next : Int32) (d_value : Int32) (d_fault : Int32) (d_faultPlace : Int32) (d_tape_bytes : Nat) (d_tape_length : Int32) (kd_tape_bytes : ClassId) (fd_tape_bytes : Nat → Int32) (b_d_value : (0) ≤ d_value.toInt ∧ d_value.toInt ≤ 1000000) (b_d_tape_length : (0) ≤ d_tape_length.toInt ∧ d_tape_length.toInt ≤ 2400) : Met l yX3_step (.code yX3_step cX3_step 2 none :: ALLW) ({ frames := 1, cells := 0, slots := 0, locals := 32 }) (va_Pc [.ref d] (fun U => U.heap.size = sz ∧ va_P (dC, dI) vwCl [(d, .inr (3, [.ref d_tape, .ref d_town, .int d_token, .int d_start, .int d_next, .int d_value, .int d_fault, .int d_faultPlace])), (d_tape, .inr (6, [.ref d_tape_bytes, .int d_tape_length])), (d_tape_bytes, .inl (kd_tape_bytes, 2400, .inl fd_tape_bytes))] U.heap ∧ va_K (dC, dI) vwCl [(kd_tape_bytes, .byte)] U ∧ va_D (fun _ => True) [(d, .inr (3, [.ref d_tape, .ref d_town, .int d_token, .int d_start, .int d_next, .int d_value, .int d_fault, .int d_faultPlace])), (d_tape, .inr (6, [.ref d_tape_bytes, .int d_tape_length])), (d_tape_bytes, .inl (kd_tape_bytes, 2400, .inl fd_tape_bytes))])) (va_Qv (fun _ : Unit => True) (fun (_ : Unit) (t9 : State) => ∃ (d_tokenz : Int32) (d_startz : Int32) (d_nextz : Int32) (d_valuez : Int32), ((0) ≤ d_valuez.toInt ∧ d_valuez.toInt ≤ 1000000) ∧ va_P (dC, dI) vwCl [(d, .inr (3, [.ref d_tape, .ref d_town, .int d_tokenz, .int d_startz, .int d_nextz, .int d_valuez, .int d_fault, .int d_faultPlace])), (d_tape, .inr (6, [.ref d_tape_bytes, .int d_tape_length])), (d_tape_bytes, .inl (kd_tape_bytes, 2400, .inl fd_tape_bytes))] t9.heap ∧ va_K (dC, dI) vwCl [] t9 ∧ va_D (va_A [(d, .inr (3, [.ref d_tape, .ref d_town, .int d_token, .int d_start, .int d_next, .int d_value, .int d_fault, .int d_faultPlace])), (d_tape, .inr (6, [.ref d_tape_bytes, .int d_tape_length])), (d_tape_bytes, .inl (kd_tape_bytes, 2400, .inl fd_tape_bytes))] sz) [(d, .inr (3, [.ref d_tape, .ref d_town, .int d_tokenz, .int d_startz, .int d_nextz, .int d_valuez, .int d_fault, .int d_faultPlace])), (d_tape, .inr (6, [.ref d_tape_bytes, .int d_tape_length])), (d_tape_bytes, .inl (kd_tape_bytes, 2400, .inl fd_tape_bytes))]) (va_A [(d, .inr (3, [.ref d_tape, .ref d_town, .int d_token, .int d_start, .int d_next, .int d_value, .int d_fault, .int d_faultPlace])), (d_tape, .inr (6, [.ref d_tape_bytes, .int d_tape_length])), (d_tape_bytes, .inl (kd_tape_bytes, 2400, .inl fd_tape_bytes))] sz)) 0 0 (va_A [(d, .inr (3, [.ref d_tape, .ref d_town, .int d_token, .int d_start, .int d_next, .int d_value, .int d_fault, .int d_faultPlace])), (d_tape, .inr (6, [.ref d_tape_bytes, .int d_tape_length])), (d_tape_bytes, .inl (kd_tape_bytes, 2400, .inl fd_tape_bytes))] sz) := by
  refine Met.ofW (cc := cX3_step) (maxL := 2) (ret := none) (by decide) rfl ?_
  intro pr_ en_ s me_ args below meth c s₁ B hml hv
  obtain ⟨rfl, hsz, hP, hK, hD0⟩ := hv
  have hx := B.exec
  have hb := B.bytes
  have hr := B.returns
  have hts0 := atoms_spec (ws := (.code yX3_step cX3_step 2 none :: ALLW)) B.pre
  have hts := fun (w : Cond) (h : w ∈ ALLW) => hts0 w (List.mem_cons_of_mem _ h)
  have hown : s.vm.findClass RX3 = some me_.cls := findClass_of_methodNamed B.named
  have hlocks := B.notSynchronized
  subst hsz
  have hD := hD0.self (sz := s.heap.size)
  generalize hAe : va_A [(d, .inr (3, [.ref d_tape, .ref d_town, .int d_token, .int d_start, .int d_next, .int d_value, .int d_fault, .int d_faultPlace])), (d_tape, .inr (6, [.ref d_tape_bytes, .int d_tape_length])), (d_tape_bytes, .inl (kd_tape_bytes, 2400, .inl fd_tape_bytes))] s.heap.size = A at hD ⊢
  have hA : ∀ q : Nat, s.heap.size ≤ q → A q := fun q h => by rw [← hAe]; exact Or.inr h
  have hS : va_S A s.heap s.heap [] := va_S.rf
  have hP : va_P (dC, dI) vwCl [(d, .inr (3, [.ref d_tape, .ref d_town, .int d_token, .int d_start, .int d_next, .int d_value, .int d_fault, .int d_faultPlace])), (d_tape, .inr (6, [.ref d_tape_bytes, .int d_tape_length])), (d_tape_bytes, .inl (kd_tape_bytes, 2400, .inl fd_tape_bytes))] s.heap := hP
  have hl := lv_entry ([.ref d]) (n := 2) (Nat.le_of_ble_eq_true rfl)
  rw [lg_entry_eq]
  generalize (lg_sl ([.ref d]) ++ List.replicate (2 - (lg_sl ([.ref d])).length) Slot.unset).toArray = ls at hl ⊢
  have hl : lv_has ls 2 [(0, .ref d)] := hl
  refine gQ (fun Q eQ => ?_)
  have hL0_29 : ∀ (k : Nat) (v_8 : Int32) (H : Heap) (locs : List Loc) (ls : Array Slot), (2147483647 - v_8.toInt).toNat < k → va_P (dC, dI) vwCl [(d, .inr (3, [.ref d_tape, .ref d_town, .int d_token, .int d_start, .int v_8, .int d_value, .int d_fault, .int d_faultPlace])), (d_tape, .inr (6, [.ref d_tape_bytes, .int d_tape_length])), (d_tape_bytes, .inl (kd_tape_bytes, 2400, .inl fd_tape_bytes))] H → va_D A [(d, .inr (3, [.ref d_tape, .ref d_town, .int d_token, .int d_start, .int v_8, .int d_value, .int d_fault, .int d_faultPlace])), (d_tape, .inr (6, [.ref d_tape_bytes, .int d_tape_length])), (d_tape_bytes, .inl (kd_tape_bytes, 2400, .inl fd_tape_bytes))] → va_S A s.heap H locs → lv_has ls 2 [(0, .ref d)] → W pr_ l en_ ({ frames := 1, cells := 0, slots := 0, locals := 32 }) s me_ ([.ref d]).toArray below meth c H locs 0 0 Q (F0 me_ 0 ls []) := by
    intro k
    induction k with
    | zero => intro v_8 H locs ls hmu; exact absurd hmu (Nat.not_lt_zero _)
    | succ k ih0_29 =>
      intro v_8 H locs ls hmu0  hP hD hS hl
      refine lv_aload_n hx hb dX3_step_0 rfl (lv_at hl 0 rfl) ?_
      refine va_get (D := (dC, dI)) (ci := 3) (v := .int v_8) (C := RX3) (T := TX3) (N := 8) hx hb hts inA3 hown hK hP 0 rfl rfl 4 (by decide) (hts _ w_68) (fun _ h9 => h9) rfl dX3_step_1 ?_
      refine lv_aload_n hx hb dX3_step_4 rfl (lv_at hl 0 rfl) ?_
      refine va_get (D := (dC, dI)) (ci := 3) (v := .ref d_tape) (C := RX3) (T := TX3) (N := 8) hx hb hts inA3 hown hK hP 0 rfl rfl 0 (by decide) (hts _ w_72) (fun _ h9 => h9) rfl dX3_step_5 ?_
      refine va_get (D := (dC, dI)) (ci := 6) (v := .int d_tape_length) (C := RX6) (T := TX6) (N := 2) hx hb hts inA6 hown hK hP 1 rfl rfl 1 (by decide) (hts _ w_244) (fun _ h9 => h9) rfl dX3_step_8 ?_
      have rg_31 := q_rng v_8
      have hJ44_36 : ∀  (H : Heap) (locs : List Loc) (ls : Array Slot), va_P (dC, dI) vwCl [(d, .inr (3, [.ref d_tape, .ref d_town, .int d_token, .int d_start, .int v_8, .int d_value, .int d_fault, .int d_faultPlace])), (d_tape, .inr (6, [.ref d_tape_bytes, .int d_tape_length])), (d_tape_bytes, .inl (kd_tape_bytes, 2400, .inl fd_tape_bytes))] H → va_D A [(d, .inr (3, [.ref d_tape, .ref d_town, .int d_token, .int d_start, .int v_8, .int d_value, .int d_fault, .int d_faultPlace])), (d_tape, .inr (6, [.ref d_tape_bytes, .int d_tape_length])), (d_tape_bytes, .inl (kd_tape_bytes, 2400, .inl fd_tape_bytes))] → va_S A s.heap H locs → lv_has ls 2 [(0, .ref d)] → W pr_ l en_ ({ frames := 1, cells := 0, slots := 0, locals := 32 }) s me_ ([.ref d]).toArray below meth c H locs 0 0 Q (F0 me_ 44 ls []) := by
        intro  H locs ls  hP hD hS hl
        refine lv_aload_n hx hb dX3_step_44 rfl (lv_at hl 0 rfl) ?_
        refine lv_aload_n hx hb dX3_step_45 rfl (lv_at hl 0 rfl) ?_
        refine va_get (D := (dC, dI)) (ci := 3) (v := .int v_8) (C := RX3) (T := TX3) (N := 8) hx hb hts inA3 hown hK hP 0 rfl rfl 4 (by decide) (hts _ w_68) (fun _ h9 => h9) rfl dX3_step_46 ?_
        refine va_put (D := (dC, dI)) (ci := 3) (v := .int v_8) (ty := tyX3 3) (C := RX3) (T := TX3) (N := 8) hx hb hts inA3 tyX3 tyX3_ok nmX3 hown hK hP hD hS 0 rfl rfl 3 (by decide) (hts _ w_67) (fun _ h9 => h9) rfl (tyX3_ok 3 (by decide)) rfl rfl (Nat.le_of_ble_eq_true rfl) dX3_step_49 (fun H locs hP hD hS => ?_)
        have hP : va_P (dC, dI) vwCl [(d, .inr (3, [.ref d_tape, .ref d_town, .int d_token, .int v_8, .int v_8, .int d_value, .int d_fault, .int d_faultPlace])), (d_tape, .inr (6, [.ref d_tape_bytes, .int d_tape_length])), (d_tape_bytes, .inl (kd_tape_bytes, 2400, .inl fd_tape_bytes))] H := hP
        have hD : va_D A [(d, .inr (3, [.ref d_tape, .ref d_town, .int d_token, .int v_8, .int v_8, .int d_value, .int d_fault, .int d_faultPlace])), (d_tape, .inr (6, [.ref d_tape_bytes, .int d_tape_length])), (d_tape_bytes, .inl (kd_tape_bytes, 2400, .inl fd_tape_bytes))] := hD
        refine lv_aload_n hx hb dX3_step_52 rfl (lv_at hl 0 rfl) ?_
        refine va_get (D := (dC, dI)) (ci := 3) (v := .ref d_tape) (C := RX3) (T := TX3) (N := 8) hx hb hts inA3 hown hK hP 0 rfl rfl 0 (by decide) (hts _ w_72) (fun _ h9 => h9) rfl dX3_step_53 ?_
        refine lv_aload_n hx hb dX3_step_56 rfl (lv_at hl 0 rfl) ?_
        refine va_get (D := (dC, dI)) (ci := 3) (v := .int v_8) (C := RX3) (T := TX3) (N := 8) hx hb hts inA3 hown hK hP 0 rfl rfl 4 (by decide) (hts _ w_68) (fun _ h9 => h9) rfl dX3_step_57 ?_
        have hPc := hP.sub (ws' := [(d_tape, .inr (6, [.ref d_tape_bytes, .int d_tape_length])), (d_tape_bytes, .inl (kd_tape_bytes, 2400, .inl fd_tape_bytes))]) [1, 2] rfl
        have hDc := hD.sub (ws' := [(d_tape, .inr (6, [.ref d_tape_bytes, .int d_tape_length])), (d_tape_bytes, .inl (kd_tape_bytes, 2400, .inl fd_tape_bytes))]) [1, 2] (by decide) rfl
        have hKc := hK.sub (tys' := [(kd_tape_bytes, .byte)]) [0] rfl
        have hFc := va_free (wc := [(d_tape, .inr (6, [.ref d_tape_bytes, .int d_tape_length])), (d_tape_bytes, .inl (kd_tape_bytes, 2400, .inl fd_tape_bytes))]) hD hS hA [1, 2] rfl
        refine va_calli (va_runV (As := [.int v_8]) (rest := []) ⟨hx, hb, hml, hown, hts⟩ (e_at l dC dI H.size d_tape v_8 d_tape_bytes d_tape_length kd_tape_bytes fd_tape_bytes b_d_tape_length) (cwV 1 hts (goodV w_250 w_251 w_252 w_15 w_253) rfl rfl rfl hdV_X6_at ⟨Nat.le_of_ble_eq_true rfl, Nat.le_of_ble_eq_true rfl⟩) ⟨fun a U g mk q => by obtain ⟨q0, q1, qP, qK, qD⟩ := q; exact ⟨q0, q1, qP, va_K.moved (u := U) (U := U.calling g mk a) (Vm.Alike.refl U.vm) qK, qD⟩, va_recv hKc hPc (ci := 6) (q0 := 0) rfl rfl, fun U hU hW => ⟨rfl, by rw [hU], by rw [hU]; exact hPc, va_K.moved hW.alike hKc, hDc.weaken (fun _ _ _ _ => trivial)⟩⟩ rfl rfl hl.1 rfl (lv_room (Nat.le_of_ble_eq_true rfl)) dX3_step_60 ⟨Nat.le_of_ble_eq_true rfl, Nat.le_of_ble_eq_true rfl⟩) hS (fun q _ h => hFc q h) hFc (fun r_37 u9 t9 H1 locs ht hvm hw hB hz1 hk1 hS => ?_)
        subst hw
        obtain ⟨hf_38, hP1, hK1, hD1⟩ := hB
        rw [ht] at hP1
        have hK1 := va_K.moved hvm.symm hK1
        obtain ⟨hP, hD⟩ := va_join (wr := [(d, .inr (3, [.ref d_tape, .ref d_town, .int d_token, .int v_8, .int v_8, .int d_value, .int d_fault, .int d_faultPlace]))]) (w1 := [(d_tape, .inr (6, [.ref d_tape_bytes, .int d_tape_length])), (d_tape_bytes, .inl (kd_tape_bytes, 2400, .inl fd_tape_bytes))]) hP hD [1, 2] [0] rfl rfl (by decide) (by decide) hk1 hFc hP1 hD1
        clear hPc hDc hKc hFc hz1 hk1 hP1 hD1 hK1
        generalize H1 = H at hP hS ⊢
        have hP : va_P (dC, dI) vwCl [(d, .inr (3, [.ref d_tape, .ref d_town, .int d_token, .int v_8, .int v_8, .int d_value, .int d_fault, .int d_faultPlace])), (d_tape, .inr (6, [.ref d_tape_bytes, .int d_tape_length])), (d_tape_bytes, .inl (kd_tape_bytes, 2400, .inl fd_tape_bytes))] H := hP
        have hD : va_D A [(d, .inr (3, [.ref d_tape, .ref d_town, .int d_token, .int v_8, .int v_8, .int d_value, .int d_fault, .int d_faultPlace])), (d_tape, .inr (6, [.ref d_tape_bytes, .int d_tape_length])), (d_tape_bytes, .inl (kd_tape_bytes, 2400, .inl fd_tape_bytes))] := hD
        refine lv_istore_n (lv' := [(1, .int r_37), (0, .ref d)]) hx hb dX3_step_63 rfl hl (by decide) rfl (fun ls hl => ?_)
        refine lv_iload_n hx hb dX3_step_64 rfl (lv_at hl 0 rfl) ?_
        refine lv_iconst (v := (-1)) hx hb dX3_step_65 (by decide) ?_
        have rg_40 := q_rng r_37
        refine lv_icmp_ne (tgt := 77) hx hb dX3_step_66 (by decide) (fun c_39 => ?_) (fun c_39 => ?_)
        · have ec_39 := q_ne (a := r_37.toInt) (b := -1) rfl (by decide) c_39
          refine lv_iload_n hx hb dX3_step_77 rfl (lv_at hl 0 rfl) ?_
          have hPc := hP.sub (ws' := []) [] rfl
          have hDc := hD.sub (ws' := []) [] (by decide) rfl
          have hKc := hK.sub (tys' := []) [] rfl
          have hFc := va_free (wc := []) hD hS hA [] rfl
          refine va_calli (va_runS (As := [.int r_37]) (rest := []) ⟨hx, hb, hml, hown, hts⟩ (d_isSmall l dC dI H.size r_37 ) (va_cwS 1 hts (goodS w_257 w_258 w_19 w_259) rfl rfl rfl hdS_X3_isSmall ⟨Nat.le_of_ble_eq_true rfl, Nat.le_of_ble_eq_true rfl⟩) ⟨fun a U g mk q => by obtain ⟨q0, q1, qP, qK, qD⟩ := q; exact ⟨q0, q1, qP, va_K.moved (u := U) (U := U.calling g mk a) (Vm.Alike.refl U.vm) qK, qD⟩, fun U hU hW => ⟨rfl, by rw [hU], by rw [hU]; exact hPc, va_K.moved hW.alike hKc, hDc.weaken (fun _ _ _ _ => trivial)⟩⟩ rfl rfl hl.1 rfl (lv_room (Nat.le_of_ble_eq_true rfl)) dX3_step_78 ⟨Nat.le_of_ble_eq_true rfl, Nat.le_of_ble_eq_true rfl⟩) hS (fun q _ h => hFc q h) hFc (fun r_41 u9 t9 H1 locs ht hvm hw hB hz1 hk1 hS => ?_)
          subst hw
          obtain ⟨b_r_41, hP1, hK1, hD1⟩ := hB
          rw [ht] at hP1
          have hK1 := va_K.moved hvm.symm hK1
          obtain ⟨hP, hD⟩ := va_join (wr := [(d, .inr (3, [.ref d_tape, .ref d_town, .int d_token, .int v_8, .int v_8, .int d_value, .int d_fault, .int d_faultPlace])), (d_tape, .inr (6, [.ref d_tape_bytes, .int d_tape_length])), (d_tape_bytes, .inl (kd_tape_bytes, 2400, .inl fd_tape_bytes))]) (w1 := []) hP hD [] [0, 1, 2] rfl rfl (by decide) (by decide) hk1 hFc hP1 hD1
          clear hPc hDc hKc hFc hz1 hk1 hP1 hD1 hK1
          generalize H1 = H at hP hS ⊢
          have hP : va_P (dC, dI) vwCl [(d, .inr (3, [.ref d_tape, .ref d_town, .int d_token, .int v_8, .int v_8, .int d_value, .int d_fault, .int d_faultPlace])), (d_tape, .inr (6, [.ref d_tape_bytes, .int d_tape_length])), (d_tape_bytes, .inl (kd_tape_bytes, 2400, .inl fd_tape_bytes))] H := hP
          have hD : va_D A [(d, .inr (3, [.ref d_tape, .ref d_town, .int d_token, .int v_8, .int v_8, .int d_value, .int d_fault, .int d_faultPlace])), (d_tape, .inr (6, [.ref d_tape_bytes, .int d_tape_length])), (d_tape_bytes, .inl (kd_tape_bytes, 2400, .inl fd_tape_bytes))] := hD
          refine lv_if_eq (tgt := 133) hx hb dX3_step_81 (by decide) (fun c_42 => ?_) (fun c_42 => ?_)
          · have ec_42 := q_eq (a := r_41.toInt) (b := 0) rfl (by decide) c_42
            refine lv_iload_n hx hb dX3_step_133 rfl (lv_at hl 0 rfl) ?_
            have hPc := hP.sub (ws' := []) [] rfl
            have hDc := hD.sub (ws' := []) [] (by decide) rfl
            have hKc := hK.sub (tys' := []) [] rfl
            have hFc := va_free (wc := []) hD hS hA [] rfl
            refine va_calli (va_runS (As := [.int r_37]) (rest := []) ⟨hx, hb, hml, hown, hts⟩ (d_isDigit l dC dI H.size r_37 ) (va_cwS 1 hts (goodS w_260 w_261 w_19 w_262) rfl rfl rfl hdS_X3_isDigit ⟨Nat.le_of_ble_eq_true rfl, Nat.le_of_ble_eq_true rfl⟩) ⟨fun a U g mk q => by obtain ⟨q0, q1, qP, qK, qD⟩ := q; exact ⟨q0, q1, qP, va_K.moved (u := U) (U := U.calling g mk a) (Vm.Alike.refl U.vm) qK, qD⟩, fun U hU hW => ⟨rfl, by rw [hU], by rw [hU]; exact hPc, va_K.moved hW.alike hKc, hDc.weaken (fun _ _ _ _ => trivial)⟩⟩ rfl rfl hl.1 rfl (lv_room (Nat.le_of_ble_eq_true rfl)) dX3_step_134 ⟨Nat.le_of_ble_eq_true rfl, Nat.le_of_ble_eq_true rfl⟩) hS (fun q _ h => hFc q h) hFc (fun r_43 u9 t9 H1 locs ht hvm hw hB hz1 hk1 hS => ?_)
            subst hw
            obtain ⟨b_r_43, hf_44, hP1, hK1, hD1⟩ := hB
            rw [ht] at hP1
            have hK1 := va_K.moved hvm.symm hK1
            obtain ⟨hP, hD⟩ := va_join (wr := [(d, .inr (3, [.ref d_tape, .ref d_town, .int d_token, .int v_8, .int v_8, .int d_value, .int d_fault, .int d_faultPlace])), (d_tape, .inr (6, [.ref d_tape_bytes, .int d_tape_length])), (d_tape_bytes, .inl (kd_tape_bytes, 2400, .inl fd_tape_bytes))]) (w1 := []) hP hD [] [0, 1, 2] rfl rfl (by decide) (by decide) hk1 hFc hP1 hD1
            clear hPc hDc hKc hFc hz1 hk1 hP1 hD1 hK1
            generalize H1 = H at hP hS ⊢
            have hP : va_P (dC, dI) vwCl [(d, .inr (3, [.ref d_tape, .ref d_town, .int d_token, .int v_8, .int v_8, .int d_value, .int d_fault, .int d_faultPlace])), (d_tape, .inr (6, [.ref d_tape_bytes, .int d_tape_length])), (d_tape_bytes, .inl (kd_tape_bytes, 2400, .inl fd_tape_bytes))] H := hP
            have hD : va_D A [(d, .inr (3, [.ref d_tape, .ref d_town, .int d_token, .int v_8, .int v_8, .int d_value, .int d_fault, .int d_faultPlace])), (d_tape, .inr (6, [.ref d_tape_bytes, .int d_tape_length])), (d_tape_bytes, .inl (kd_tape_bytes, 2400, .inl fd_tape_bytes))] := hD
            refine lv_if_eq (tgt := 225) hx hb dX3_step_137 (by decide) (fun c_45 => ?_) (fun c_45 => ?_)
            · have ec_45 := q_eq (a := r_43.toInt) (b := 0) rfl (by decide) c_45
              refine lv_aload_n hx hb dX3_step_225 rfl (lv_at hl 1 rfl) ?_
              refine lv_iload_n hx hb dX3_step_226 rfl (lv_at hl 0 rfl) ?_
              refine lv_bipush (v := 59) hx hb dX3_step_227 (by decide) ?_
              have rg_47 := q_rng r_37
              have hJ237_48 : ∀ (v_48 : Int32) (H : Heap) (locs : List Loc) (ls : Array Slot), ((3) ≤ v_48.toInt ∧ v_48.toInt ≤ 4) → va_P (dC, dI) vwCl [(d, .inr (3, [.ref d_tape, .ref d_town, .int d_token, .int v_8, .int v_8, .int d_value, .int d_fault, .int d_faultPlace])), (d_tape, .inr (6, [.ref d_tape_bytes, .int d_tape_length])), (d_tape_bytes, .inl (kd_tape_bytes, 2400, .inl fd_tape_bytes))] H → va_D A [(d, .inr (3, [.ref d_tape, .ref d_town, .int d_token, .int v_8, .int v_8, .int d_value, .int d_fault, .int d_faultPlace])), (d_tape, .inr (6, [.ref d_tape_bytes, .int d_tape_length])), (d_tape_bytes, .inl (kd_tape_bytes, 2400, .inl fd_tape_bytes))] → va_S A s.heap H locs → lv_has ls 2 [(0, .ref d)] → W pr_ l en_ ({ frames := 1, cells := 0, slots := 0, locals := 32 }) s me_ ([.ref d]).toArray below meth c H locs 0 0 Q (F0 me_ 237 ls [.int v_48, .ref d]) := by
                intro v_48 H locs ls b_v_48 hP hD hS hl
                refine va_put (D := (dC, dI)) (ci := 3) (v := .int v_48) (ty := tyX3 2) (C := RX3) (T := TX3) (N := 8) hx hb hts inA3 tyX3 tyX3_ok nmX3 hown hK hP hD hS 0 rfl rfl 2 (by decide) (hts _ w_66) (fun _ h9 => h9) rfl (tyX3_ok 2 (by decide)) rfl rfl (Nat.le_of_ble_eq_true rfl) dX3_step_237 (fun H locs hP hD hS => ?_)
                have hP : va_P (dC, dI) vwCl [(d, .inr (3, [.ref d_tape, .ref d_town, .int v_48, .int v_8, .int v_8, .int d_value, .int d_fault, .int d_faultPlace])), (d_tape, .inr (6, [.ref d_tape_bytes, .int d_tape_length])), (d_tape_bytes, .inl (kd_tape_bytes, 2400, .inl fd_tape_bytes))] H := hP
                have hD : va_D A [(d, .inr (3, [.ref d_tape, .ref d_town, .int v_48, .int v_8, .int v_8, .int d_value, .int d_fault, .int d_faultPlace])), (d_tape, .inr (6, [.ref d_tape_bytes, .int d_tape_length])), (d_tape_bytes, .inl (kd_tape_bytes, 2400, .inl fd_tape_bytes))] := hD
                refine lv_aload_n hx hb dX3_step_240 rfl (lv_at hl 0 rfl) ?_
                refine lv_dup hx hb dX3_step_241 rfl ?_
                refine va_get (D := (dC, dI)) (ci := 3) (v := .int v_8) (C := RX3) (T := TX3) (N := 8) hx hb hts inA3 hown hK hP 0 rfl rfl 4 (by decide) (hts _ w_68) (fun _ h9 => h9) rfl dX3_step_242 ?_
                refine lv_iconst (v := 1) hx hb dX3_step_245 (by decide) ?_
                refine lv_iadd hx hb dX3_step_246 ?_
                refine lv_topi (fun x_49 ex_49 => ?_)
                refine va_put (D := (dC, dI)) (ci := 3) (v := .int x_49) (ty := tyX3 4) (C := RX3) (T := TX3) (N := 8) hx hb hts inA3 tyX3 tyX3_ok nmX3 hown hK hP hD hS 0 rfl rfl 4 (by decide) (hts _ w_68) (fun _ h9 => h9) rfl (tyX3_ok 4 (by decide)) rfl rfl (Nat.le_of_ble_eq_true rfl) dX3_step_247 (fun H locs hP hD hS => ?_)
                have hP : va_P (dC, dI) vwCl [(d, .inr (3, [.ref d_tape, .ref d_town, .int v_48, .int v_8, .int x_49, .int d_value, .int d_fault, .int d_faultPlace])), (d_tape, .inr (6, [.ref d_tape_bytes, .int d_tape_length])), (d_tape_bytes, .inl (kd_tape_bytes, 2400, .inl fd_tape_bytes))] H := hP
                have hD : va_D A [(d, .inr (3, [.ref d_tape, .ref d_town, .int v_48, .int v_8, .int x_49, .int d_value, .int d_fault, .int d_faultPlace])), (d_tape, .inr (6, [.ref d_tape_bytes, .int d_tape_length])), (d_tape_bytes, .inl (kd_tape_bytes, 2400, .inl fd_tape_bytes))] := hD
                have hP9 := hP.sub (ws' := [(d, .inr (3, [.ref d_tape, .ref d_town, .int v_48, .int v_8, .int x_49, .int d_value, .int d_fault, .int d_faultPlace])), (d_tape, .inr (6, [.ref d_tape_bytes, .int d_tape_length])), (d_tape_bytes, .inl (kd_tape_bytes, 2400, .inl fd_tape_bytes))]) [0, 1, 2] rfl
                have hD9 := hD.sub (ws' := [(d, .inr (3, [.ref d_tape, .ref d_town, .int v_48, .int v_8, .int x_49, .int d_value, .int d_fault, .int d_faultPlace])), (d_tape, .inr (6, [.ref d_tape_bytes, .int d_tape_length])), (d_tape_bytes, .inl (kd_tape_bytes, 2400, .inl fd_tape_bytes))]) [0, 1, 2] (by decide) rfl
                have hK9 := hK.sub (tys' := []) [] rfl
                refine gQe eQ ?_
                exact W.vret hx hb hr (fun t9 ht hW => ⟨⟨(), rfl, trivial, v_48, v_8, x_49, d_value, b_d_value, by rw [ht]; exact hP9, va_K.moved hW.alike hK9, hD9⟩, hS.F ht⟩) hS.2.2 dX3_step_250
              refine lv_icmp_ne (tgt := 236) hx hb dX3_step_229 (by decide) (fun c_46 => ?_) (fun c_46 => ?_)
              · have ec_46 := q_ne (a := r_37.toInt) (b := 59) rfl (by decide) c_46
                refine lv_iconst (v := 4) hx hb dX3_step_236 (by decide) ?_
                exact hJ237_48 4 H locs ls  ⟨by decide, by decide⟩ hP hD hS (lv_sub hl [1] rfl)
              · have ec_46 := q_nne (a := r_37.toInt) (b := 59) rfl (by decide) c_46
                refine lv_iconst (v := 3) hx hb dX3_step_232 (by decide) ?_
                refine lv_goto (tgt := 237) hx hb dX3_step_233 (by decide) ?_
                exact hJ237_48 3 H locs ls  ⟨by decide, by decide⟩ hP hD hS (lv_sub hl [1] rfl)
            · have ec_45 := q_neq (a := r_43.toInt) (b := 0) rfl (by decide) c_45
              have b_r_37 : (48) ≤ r_37.toInt ∧ r_37.toInt ≤ 57 := ⟨by omega, by omega⟩
              refine lv_aload_n hx hb dX3_step_140 rfl (lv_at hl 1 rfl) ?_
              refine lv_iconst (v := 2) hx hb dX3_step_141 (by decide) ?_
              refine va_put (D := (dC, dI)) (ci := 3) (v := .int 2) (ty := tyX3 2) (C := RX3) (T := TX3) (N := 8) hx hb hts inA3 tyX3 tyX3_ok nmX3 hown hK hP hD hS 0 rfl rfl 2 (by decide) (hts _ w_66) (fun _ h9 => h9) rfl (tyX3_ok 2 (by decide)) rfl rfl (Nat.le_of_ble_eq_true rfl) dX3_step_142 (fun H locs hP hD hS => ?_)
              have hP : va_P (dC, dI) vwCl [(d, .inr (3, [.ref d_tape, .ref d_town, .int 2, .int v_8, .int v_8, .int d_value, .int d_fault, .int d_faultPlace])), (d_tape, .inr (6, [.ref d_tape_bytes, .int d_tape_length])), (d_tape_bytes, .inl (kd_tape_bytes, 2400, .inl fd_tape_bytes))] H := hP
              have hD : va_D A [(d, .inr (3, [.ref d_tape, .ref d_town, .int 2, .int v_8, .int v_8, .int d_value, .int d_fault, .int d_faultPlace])), (d_tape, .inr (6, [.ref d_tape_bytes, .int d_tape_length])), (d_tape_bytes, .inl (kd_tape_bytes, 2400, .inl fd_tape_bytes))] := hD
              refine lv_aload_n hx hb dX3_step_145 rfl (lv_at hl 1 rfl) ?_
              refine lv_iconst (v := 0) hx hb dX3_step_146 (by decide) ?_
              refine va_put (D := (dC, dI)) (ci := 3) (v := .int 0) (ty := tyX3 5) (C := RX3) (T := TX3) (N := 8) hx hb hts inA3 tyX3 tyX3_ok nmX3 hown hK hP hD hS 0 rfl rfl 5 (by decide) (hts _ w_69) (fun _ h9 => h9) rfl (tyX3_ok 5 (by decide)) rfl rfl (Nat.le_of_ble_eq_true rfl) dX3_step_147 (fun H locs hP hD hS => ?_)
              have hP : va_P (dC, dI) vwCl [(d, .inr (3, [.ref d_tape, .ref d_town, .int 2, .int v_8, .int v_8, .int 0, .int d_fault, .int d_faultPlace])), (d_tape, .inr (6, [.ref d_tape_bytes, .int d_tape_length])), (d_tape_bytes, .inl (kd_tape_bytes, 2400, .inl fd_tape_bytes))] H := hP
              have hD : va_D A [(d, .inr (3, [.ref d_tape, .ref d_town, .int 2, .int v_8, .int v_8, .int 0, .int d_fault, .int d_faultPlace])), (d_tape, .inr (6, [.ref d_tape_bytes, .int d_tape_length])), (d_tape_bytes, .inl (kd_tape_bytes, 2400, .inl fd_tape_bytes))] := hD
              have hL150_157 : ∀ (k : Nat) (v_66 : Int32) (v_67 : Int32) (H : Heap) (locs : List Loc) (ls : Array Slot), (2147483647 - v_66.toInt).toNat < k → ((0) ≤ v_67.toInt ∧ v_67.toInt ≤ 1000000) → va_P (dC, dI) vwCl [(d, .inr (3, [.ref d_tape, .ref d_town, .int 2, .int v_8, .int v_66, .int v_67, .int d_fault, .int d_faultPlace])), (d_tape, .inr (6, [.ref d_tape_bytes, .int d_tape_length])), (d_tape_bytes, .inl (kd_tape_bytes, 2400, .inl fd_tape_bytes))] H → va_D A [(d, .inr (3, [.ref d_tape, .ref d_town, .int 2, .int v_8, .int v_66, .int v_67, .int d_fault, .int d_faultPlace])), (d_tape, .inr (6, [.ref d_tape_bytes, .int d_tape_length])), (d_tape_bytes, .inl (kd_tape_bytes, 2400, .inl fd_tape_bytes))] → va_S A s.heap H locs → lv_has ls 2 [(0, .ref d)] → W pr_ l en_ ({ frames := 1, cells := 0, slots := 0, locals := 32 }) s me_ ([.ref d]).toArray below meth c H locs 0 0 Q (F0 me_ 150 ls []) := by
                intro k
                induction k with
                | zero => intro v_66 v_67 H locs ls hmu; exact absurd hmu (Nat.not_lt_zero _)
                | succ k ih150_157 =>
                  intro v_66 v_67 H locs ls hmu150 b_v_67 hP hD hS hl
                  refine lv_aload_n hx hb dX3_step_150 rfl (lv_at hl 0 rfl) ?_
                  refine va_get (D := (dC, dI)) (ci := 3) (v := .int v_66) (C := RX3) (T := TX3) (N := 8) hx hb hts inA3 hown hK hP 0 rfl rfl 4 (by decide) (hts _ w_68) (fun _ h9 => h9) rfl dX3_step_151 ?_
                  refine lv_aload_n hx hb dX3_step_154 rfl (lv_at hl 0 rfl) ?_
                  refine va_get (D := (dC, dI)) (ci := 3) (v := .ref d_tape) (C := RX3) (T := TX3) (N := 8) hx hb hts inA3 hown hK hP 0 rfl rfl 0 (by decide) (hts _ w_72) (fun _ h9 => h9) rfl dX3_step_155 ?_
                  refine va_get (D := (dC, dI)) (ci := 6) (v := .int d_tape_length) (C := RX6) (T := TX6) (N := 2) hx hb hts inA6 hown hK hP 1 rfl rfl 1 (by decide) (hts _ w_244) (fun _ h9 => h9) rfl dX3_step_158 ?_
                  have rg_159 := q_rng v_66
                  refine lv_icmp_ge (tgt := 250) hx hb dX3_step_161 (by decide) (fun c_158 => ?_) (fun c_158 => ?_)
                  · have ec_158 := q_ge (a := v_66.toInt) (b := d_tape_length.toInt) rfl rfl c_158
                    have hP9 := hP.sub (ws' := [(d, .inr (3, [.ref d_tape, .ref d_town, .int 2, .int v_8, .int v_66, .int v_67, .int d_fault, .int d_faultPlace])), (d_tape, .inr (6, [.ref d_tape_bytes, .int d_tape_length])), (d_tape_bytes, .inl (kd_tape_bytes, 2400, .inl fd_tape_bytes))]) [0, 1, 2] rfl
                    have hD9 := hD.sub (ws' := [(d, .inr (3, [.ref d_tape, .ref d_town, .int 2, .int v_8, .int v_66, .int v_67, .int d_fault, .int d_faultPlace])), (d_tape, .inr (6, [.ref d_tape_bytes, .int d_tape_length])), (d_tape_bytes, .inl (kd_tape_bytes, 2400, .inl fd_tape_bytes))]) [0, 1, 2] (by decide) rfl
                    have hK9 := hK.sub (tys' := []) [] rfl
                    refine gQe eQ ?_
                    exact W.vret hx hb hr (fun t9 ht hW => ⟨⟨(), rfl, trivial, 2, v_8, v_66, v_67, b_v_67, by rw [ht]; exact hP9, va_K.moved hW.alike hK9, hD9⟩, hS.F ht⟩) hS.2.2 dX3_step_250
                  · have ec_158 := q_nge (a := v_66.toInt) (b := d_tape_length.toInt) rfl rfl c_158
                    refine lv_aload_n hx hb dX3_step_164 rfl (lv_at hl 0 rfl) ?_
                    refine va_get (D := (dC, dI)) (ci := 3) (v := .ref d_tape) (C := RX3) (T := TX3) (N := 8) hx hb hts inA3 hown hK hP 0 rfl rfl 0 (by decide) (hts _ w_72) (fun _ h9 => h9) rfl dX3_step_165 ?_
                    refine lv_aload_n hx hb dX3_step_168 rfl (lv_at hl 0 rfl) ?_
                    refine va_get (D := (dC, dI)) (ci := 3) (v := .int v_66) (C := RX3) (T := TX3) (N := 8) hx hb hts inA3 hown hK hP 0 rfl rfl 4 (by decide) (hts _ w_68) (fun _ h9 => h9) rfl dX3_step_169 ?_
                    have hPc := hP.sub (ws' := [(d_tape, .inr (6, [.ref d_tape_bytes, .int d_tape_length])), (d_tape_bytes, .inl (kd_tape_bytes, 2400, .inl fd_tape_bytes))]) [1, 2] rfl
                    have hDc := hD.sub (ws' := [(d_tape, .inr (6, [.ref d_tape_bytes, .int d_tape_length])), (d_tape_bytes, .inl (kd_tape_bytes, 2400, .inl fd_tape_bytes))]) [1, 2] (by decide) rfl
                    have hKc := hK.sub (tys' := [(kd_tape_bytes, .byte)]) [0] rfl
                    have hFc := va_free (wc := [(d_tape, .inr (6, [.ref d_tape_bytes, .int d_tape_length])), (d_tape_bytes, .inl (kd_tape_bytes, 2400, .inl fd_tape_bytes))]) hD hS hA [1, 2] rfl
                    refine va_calli (va_runV (As := [.int v_66]) (rest := []) ⟨hx, hb, hml, hown, hts⟩ (e_at l dC dI H.size d_tape v_66 d_tape_bytes d_tape_length kd_tape_bytes fd_tape_bytes b_d_tape_length) (cwV 1 hts (goodV w_250 w_251 w_252 w_15 w_253) rfl rfl rfl hdV_X6_at ⟨Nat.le_of_ble_eq_true rfl, Nat.le_of_ble_eq_true rfl⟩) ⟨fun a U g mk q => by obtain ⟨q0, q1, qP, qK, qD⟩ := q; exact ⟨q0, q1, qP, va_K.moved (u := U) (U := U.calling g mk a) (Vm.Alike.refl U.vm) qK, qD⟩, va_recv hKc hPc (ci := 6) (q0 := 0) rfl rfl, fun U hU hW => ⟨rfl, by rw [hU], by rw [hU]; exact hPc, va_K.moved hW.alike hKc, hDc.weaken (fun _ _ _ _ => trivial)⟩⟩ rfl rfl hl.1 rfl (lv_room (Nat.le_of_ble_eq_true rfl)) dX3_step_172 ⟨Nat.le_of_ble_eq_true rfl, Nat.le_of_ble_eq_true rfl⟩) hS (fun q _ h => hFc q h) hFc (fun r_160 u9 t9 H1 locs ht hvm hw hB hz1 hk1 hS => ?_)
                    subst hw
                    obtain ⟨hf_161, hP1, hK1, hD1⟩ := hB
                    rw [ht] at hP1
                    have hK1 := va_K.moved hvm.symm hK1
                    obtain ⟨hP, hD⟩ := va_join (wr := [(d, .inr (3, [.ref d_tape, .ref d_town, .int 2, .int v_8, .int v_66, .int v_67, .int d_fault, .int d_faultPlace]))]) (w1 := [(d_tape, .inr (6, [.ref d_tape_bytes, .int d_tape_length])), (d_tape_bytes, .inl (kd_tape_bytes, 2400, .inl fd_tape_bytes))]) hP hD [1, 2] [0] rfl rfl (by decide) (by decide) hk1 hFc hP1 hD1
                    clear hPc hDc hKc hFc hz1 hk1 hP1 hD1 hK1
                    generalize H1 = H at hP hS ⊢
                    have hP : va_P (dC, dI) vwCl [(d, .inr (3, [.ref d_tape, .ref d_town, .int 2, .int v_8, .int v_66, .int v_67, .int d_fault, .int d_faultPlace])), (d_tape, .inr (6, [.ref d_tape_bytes, .int d_tape_length])), (d_tape_bytes, .inl (kd_tape_bytes, 2400, .inl fd_tape_bytes))] H := hP
                    have hD : va_D A [(d, .inr (3, [.ref d_tape, .ref d_town, .int 2, .int v_8, .int v_66, .int v_67, .int d_fault, .int d_faultPlace])), (d_tape, .inr (6, [.ref d_tape_bytes, .int d_tape_length])), (d_tape_bytes, .inl (kd_tape_bytes, 2400, .inl fd_tape_bytes))] := hD
                    have hPc := hP.sub (ws' := []) [] rfl
                    have hDc := hD.sub (ws' := []) [] (by decide) rfl
                    have hKc := hK.sub (tys' := []) [] rfl
                    have hFc := va_free (wc := []) hD hS hA [] rfl
                    refine va_calli (va_runS (As := [.int r_160]) (rest := []) ⟨hx, hb, hml, hown, hts⟩ (d_isDigit l dC dI H.size r_160 ) (va_cwS 1 hts (goodS w_260 w_261 w_19 w_262) rfl rfl rfl hdS_X3_isDigit ⟨Nat.le_of_ble_eq_true rfl, Nat.le_of_ble_eq_true rfl⟩) ⟨fun a U g mk q => by obtain ⟨q0, q1, qP, qK, qD⟩ := q; exact ⟨q0, q1, qP, va_K.moved (u := U) (U := U.calling g mk a) (Vm.Alike.refl U.vm) qK, qD⟩, fun U hU hW => ⟨rfl, by rw [hU], by rw [hU]; exact hPc, va_K.moved hW.alike hKc, hDc.weaken (fun _ _ _ _ => trivial)⟩⟩ rfl rfl hl.1 rfl (lv_room (Nat.le_of_ble_eq_true rfl)) dX3_step_175 ⟨Nat.le_of_ble_eq_true rfl, Nat.le_of_ble_eq_true rfl⟩) hS (fun q _ h => hFc q h) hFc (fun r_162 u9 t9 H1 locs ht hvm hw hB hz1 hk1 hS => ?_)
                    subst hw
                    obtain ⟨b_r_162, hf_163, hP1, hK1, hD1⟩ := hB
                    rw [ht] at hP1
                    have hK1 := va_K.moved hvm.symm hK1
                    obtain ⟨hP, hD⟩ := va_join (wr := [(d, .inr (3, [.ref d_tape, .ref d_town, .int 2, .int v_8, .int v_66, .int v_67, .int d_fault, .int d_faultPlace])), (d_tape, .inr (6, [.ref d_tape_bytes, .int d_tape_length])), (d_tape_bytes, .inl (kd_tape_bytes, 2400, .inl fd_tape_bytes))]) (w1 := []) hP hD [] [0, 1, 2] rfl rfl (by decide) (by decide) hk1 hFc hP1 hD1
                    clear hPc hDc hKc hFc hz1 hk1 hP1 hD1 hK1
                    generalize H1 = H at hP hS ⊢
                    have hP : va_P (dC, dI) vwCl [(d, .inr (3, [.ref d_tape, .ref d_town, .int 2, .int v_8, .int v_66, .int v_67, .int d_fault, .int d_faultPlace])), (d_tape, .inr (6, [.ref d_tape_bytes, .int d_tape_length])), (d_tape_bytes, .inl (kd_tape_bytes, 2400, .inl fd_tape_bytes))] H := hP
                    have hD : va_D A [(d, .inr (3, [.ref d_tape, .ref d_town, .int 2, .int v_8, .int v_66, .int v_67, .int d_fault, .int d_faultPlace])), (d_tape, .inr (6, [.ref d_tape_bytes, .int d_tape_length])), (d_tape_bytes, .inl (kd_tape_bytes, 2400, .inl fd_tape_bytes))] := hD
                    refine lv_if_eq (tgt := 250) hx hb dX3_step_178 (by decide) (fun c_164 => ?_) (fun c_164 => ?_)
                    · have ec_164 := q_eq (a := r_162.toInt) (b := 0) rfl (by decide) c_164
                      have hP9 := hP.sub (ws' := [(d, .inr (3, [.ref d_tape, .ref d_town, .int 2, .int v_8, .int v_66, .int v_67, .int d_fault, .int d_faultPlace])), (d_tape, .inr (6, [.ref d_tape_bytes, .int d_tape_length])), (d_tape_bytes, .inl (kd_tape_bytes, 2400, .inl fd_tape_bytes))]) [0, 1, 2] rfl
                      have hD9 := hD.sub (ws' := [(d, .inr (3, [.ref d_tape, .ref d_town, .int 2, .int v_8, .int v_66, .int v_67, .int d_fault, .int d_faultPlace])), (d_tape, .inr (6, [.ref d_tape_bytes, .int d_tape_length])), (d_tape_bytes, .inl (kd_tape_bytes, 2400, .inl fd_tape_bytes))]) [0, 1, 2] (by decide) rfl
                      have hK9 := hK.sub (tys' := []) [] rfl
                      refine gQe eQ ?_
                      exact W.vret hx hb hr (fun t9 ht hW => ⟨⟨(), rfl, trivial, 2, v_8, v_66, v_67, b_v_67, by rw [ht]; exact hP9, va_K.moved hW.alike hK9, hD9⟩, hS.F ht⟩) hS.2.2 dX3_step_250
                    · have ec_164 := q_neq (a := r_162.toInt) (b := 0) rfl (by decide) c_164
                      have b_r_160 : (48) ≤ r_160.toInt ∧ r_160.toInt ≤ 57 := ⟨by omega, by omega⟩
                      refine lv_aload_n hx hb dX3_step_181 rfl (lv_at hl 0 rfl) ?_
                      refine lv_ldc hx hb hown (hts _ w_245) dX3_step_182 ?_
                      refine lv_aload_n hx hb dX3_step_184 rfl (lv_at hl 0 rfl) ?_
                      refine va_get (D := (dC, dI)) (ci := 3) (v := .int v_67) (C := RX3) (T := TX3) (N := 8) hx hb hts inA3 hown hK hP 0 rfl rfl 5 (by decide) (hts _ w_69) (fun _ h9 => h9) rfl dX3_step_185 ?_
                      refine lv_bipush (v := 10) hx hb dX3_step_188 (by decide) ?_
                      refine lv_imul hx hb dX3_step_190 ?_
                      refine lv_topi (fun x_165 ex_165 => ?_)
                      have b_x_165 := q_mul (a := v_67.toInt) (b := 10) ex_165 rfl (by decide) (by omega) (by omega)
                      refine lv_aload_n hx hb dX3_step_191 rfl (lv_at hl 0 rfl) ?_
                      refine va_get (D := (dC, dI)) (ci := 3) (v := .ref d_tape) (C := RX3) (T := TX3) (N := 8) hx hb hts inA3 hown hK hP 0 rfl rfl 0 (by decide) (hts _ w_72) (fun _ h9 => h9) rfl dX3_step_192 ?_
                      refine lv_aload_n hx hb dX3_step_195 rfl (lv_at hl 0 rfl) ?_
                      refine va_get (D := (dC, dI)) (ci := 3) (v := .int v_66) (C := RX3) (T := TX3) (N := 8) hx hb hts inA3 hown hK hP 0 rfl rfl 4 (by decide) (hts _ w_68) (fun _ h9 => h9) rfl dX3_step_196 ?_
                      have hPc := hP.sub (ws' := [(d_tape, .inr (6, [.ref d_tape_bytes, .int d_tape_length])), (d_tape_bytes, .inl (kd_tape_bytes, 2400, .inl fd_tape_bytes))]) [1, 2] rfl
                      have hDc := hD.sub (ws' := [(d_tape, .inr (6, [.ref d_tape_bytes, .int d_tape_length])), (d_tape_bytes, .inl (kd_tape_bytes, 2400, .inl fd_tape_bytes))]) [1, 2] (by decide) rfl
                      have hKc := hK.sub (tys' := [(kd_tape_bytes, .byte)]) [0] rfl
                      have hFc := va_free (wc := [(d_tape, .inr (6, [.ref d_tape_bytes, .int d_tape_length])), (d_tape_bytes, .inl (kd_tape_bytes, 2400, .inl fd_tape_bytes))]) hD hS hA [1, 2] rfl
                      refine va_calli (va_runV (As := [.int v_66]) (rest := [.int x_165, .int 1000000, .ref d]) ⟨hx, hb, hml, hown, hts⟩ (e_at l dC dI H.size d_tape v_66 d_tape_bytes d_tape_length kd_tape_bytes fd_tape_bytes b_d_tape_length) (cwV 1 hts (goodV w_250 w_251 w_252 w_15 w_253) rfl rfl rfl hdV_X6_at ⟨Nat.le_of_ble_eq_true rfl, Nat.le_of_ble_eq_true rfl⟩) ⟨fun a U g mk q => by obtain ⟨q0, q1, qP, qK, qD⟩ := q; exact ⟨q0, q1, qP, va_K.moved (u := U) (U := U.calling g mk a) (Vm.Alike.refl U.vm) qK, qD⟩, va_recv hKc hPc (ci := 6) (q0 := 0) rfl rfl, fun U hU hW => ⟨rfl, by rw [hU], by rw [hU]; exact hPc, va_K.moved hW.alike hKc, hDc.weaken (fun _ _ _ _ => trivial)⟩⟩ rfl rfl hl.1 rfl (lv_room (Nat.le_of_ble_eq_true rfl)) dX3_step_199 ⟨Nat.le_of_ble_eq_true rfl, Nat.le_of_ble_eq_true rfl⟩) hS (fun q _ h => hFc q h) hFc (fun r_166 u9 t9 H1 locs ht hvm hw hB hz1 hk1 hS => ?_)
                      subst hw
                      obtain ⟨hf_167, hP1, hK1, hD1⟩ := hB
                      have hr_168 : r_166.toInt = r_160.toInt := by rw [hf_167.trans hf_161.symm]
                      rw [ht] at hP1
                      have hK1 := va_K.moved hvm.symm hK1
                      obtain ⟨hP, hD⟩ := va_join (wr := [(d, .inr (3, [.ref d_tape, .ref d_town, .int 2, .int v_8, .int v_66, .int v_67, .int d_fault, .int d_faultPlace]))]) (w1 := [(d_tape, .inr (6, [.ref d_tape_bytes, .int d_tape_length])), (d_tape_bytes, .inl (kd_tape_bytes, 2400, .inl fd_tape_bytes))]) hP hD [1, 2] [0] rfl rfl (by decide) (by decide) hk1 hFc hP1 hD1
                      clear hPc hDc hKc hFc hz1 hk1 hP1 hD1 hK1
                      generalize H1 = H at hP hS ⊢
                      have hP : va_P (dC, dI) vwCl [(d, .inr (3, [.ref d_tape, .ref d_town, .int 2, .int v_8, .int v_66, .int v_67, .int d_fault, .int d_faultPlace])), (d_tape, .inr (6, [.ref d_tape_bytes, .int d_tape_length])), (d_tape_bytes, .inl (kd_tape_bytes, 2400, .inl fd_tape_bytes))] H := hP
                      have hD : va_D A [(d, .inr (3, [.ref d_tape, .ref d_town, .int 2, .int v_8, .int v_66, .int v_67, .int d_fault, .int d_faultPlace])), (d_tape, .inr (6, [.ref d_tape_bytes, .int d_tape_length])), (d_tape_bytes, .inl (kd_tape_bytes, 2400, .inl fd_tape_bytes))] := hD
                      refine lv_iadd hx hb dX3_step_202 ?_
                      refine lv_topi (fun x_169 ex_169 => ?_)
                      have b_x_169 := q_add (a := x_165.toInt) (b := r_166.toInt) ex_169 rfl rfl (by omega) (by omega)
                      refine lv_bipush (v := 48) hx hb dX3_step_203 (by decide) ?_
                      refine lv_isub hx hb dX3_step_205 ?_
                      refine lv_topi (fun x_170 ex_170 => ?_)
                      have b_x_170 := q_sub (a := x_169.toInt) (b := 48) ex_170 rfl (by decide) (by omega) (by omega)
                      refine va_mmin hx hb (hml.trans hl.1.symm) hown (hts _ w_246) (hts _ w_247) (hts _ w_248) (hts _ w_249) (Nat.le_of_ble_eq_true rfl) (Nat.le_of_ble_eq_true rfl) (Nat.le_of_ble_eq_true rfl) (Nat.le_of_ble_eq_true rfl) dX3_step_206 ?_
                      refine lv_topi (fun x_171 ex_171 => ?_)
                      have b_x_171 := q_min (a := 1000000) (b := x_170.toInt) ex_171 (by decide) rfl
                      refine va_put (D := (dC, dI)) (ci := 3) (v := .int x_171) (ty := tyX3 5) (C := RX3) (T := TX3) (N := 8) hx hb hts inA3 tyX3 tyX3_ok nmX3 hown hK hP hD hS 0 rfl rfl 5 (by decide) (hts _ w_69) (fun _ h9 => h9) rfl (tyX3_ok 5 (by decide)) rfl rfl (Nat.le_of_ble_eq_true rfl) dX3_step_209 (fun H locs hP hD hS => ?_)
                      have hP : va_P (dC, dI) vwCl [(d, .inr (3, [.ref d_tape, .ref d_town, .int 2, .int v_8, .int v_66, .int x_171, .int d_fault, .int d_faultPlace])), (d_tape, .inr (6, [.ref d_tape_bytes, .int d_tape_length])), (d_tape_bytes, .inl (kd_tape_bytes, 2400, .inl fd_tape_bytes))] H := hP
                      have hD : va_D A [(d, .inr (3, [.ref d_tape, .ref d_town, .int 2, .int v_8, .int v_66, .int x_171, .int d_fault, .int d_faultPlace])), (d_tape, .inr (6, [.ref d_tape_bytes, .int d_tape_length])), (d_tape_bytes, .inl (kd_tape_bytes, 2400, .inl fd_tape_bytes))] := hD
                      refine lv_aload_n hx hb dX3_step_212 rfl (lv_at hl 0 rfl) ?_
                      refine lv_dup hx hb dX3_step_213 rfl ?_
                      refine va_get (D := (dC, dI)) (ci := 3) (v := .int v_66) (C := RX3) (T := TX3) (N := 8) hx hb hts inA3 hown hK hP 0 rfl rfl 4 (by decide) (hts _ w_68) (fun _ h9 => h9) rfl dX3_step_214 ?_
                      refine lv_iconst (v := 1) hx hb dX3_step_217 (by decide) ?_
                      refine lv_iadd hx hb dX3_step_218 ?_
                      refine lv_topi (fun x_172 ex_172 => ?_)
                      have b_x_172 := q_add (a := v_66.toInt) (b := 1) ex_172 rfl (by decide) (by omega) (by omega)
                      refine va_put (D := (dC, dI)) (ci := 3) (v := .int x_172) (ty := tyX3 4) (C := RX3) (T := TX3) (N := 8) hx hb hts inA3 tyX3 tyX3_ok nmX3 hown hK hP hD hS 0 rfl rfl 4 (by decide) (hts _ w_68) (fun _ h9 => h9) rfl (tyX3_ok 4 (by decide)) rfl rfl (Nat.le_of_ble_eq_true rfl) dX3_step_219 (fun H locs hP hD hS => ?_)
                      have hP : va_P (dC, dI) vwCl [(d, .inr (3, [.ref d_tape, .ref d_town, .int 2, .int v_8, .int x_172, .int x_171, .int d_fault, .int d_faultPlace])), (d_tape, .inr (6, [.ref d_tape_bytes, .int d_tape_length])), (d_tape_bytes, .inl (kd_tape_bytes, 2400, .inl fd_tape_bytes))] H := hP
                      have hD : va_D A [(d, .inr (3, [.ref d_tape, .ref d_town, .int 2, .int v_8, .int x_172, .int x_171, .int d_fault, .int d_faultPlace])), (d_tape, .inr (6, [.ref d_tape_bytes, .int d_tape_length])), (d_tape_bytes, .inl (kd_tape_bytes, 2400, .inl fd_tape_bytes))] := hD
                      refine lv_goto (tgt := 150) hx hb dX3_step_222 (by decide) ?_
                      have bq_173 : (0) ≤ x_171.toInt ∧ x_171.toInt ≤ 1000000 := ⟨by omega, by omega⟩
                      exact ih150_157 x_172 x_171 H locs ls (by omega) bq_173 hP hD hS hl
              exact hL150_157 _ v_8 0 H locs ls (Nat.lt_succ_self _) ⟨by decide, by decide⟩ hP hD hS (lv_sub hl [1] rfl)
          · have ec_42 := q_neq (a := r_41.toInt) (b := 0) rfl (by decide) c_42
            refine lv_aload_n hx hb dX3_step_84 rfl (lv_at hl 1 rfl) ?_
            refine lv_iconst (v := 1) hx hb dX3_step_85 (by decide) ?_
            refine va_put (D := (dC, dI)) (ci := 3) (v := .int 1) (ty := tyX3 2) (C := RX3) (T := TX3) (N := 8) hx hb hts inA3 tyX3 tyX3_ok nmX3 hown hK hP hD hS 0 rfl rfl 2 (by decide) (hts _ w_66) (fun _ h9 => h9) rfl (tyX3_ok 2 (by decide)) rfl rfl (Nat.le_of_ble_eq_true rfl) dX3_step_86 (fun H locs hP hD hS => ?_)
            have hP : va_P (dC, dI) vwCl [(d, .inr (3, [.ref d_tape, .ref d_town, .int 1, .int v_8, .int v_8, .int d_value, .int d_fault, .int d_faultPlace])), (d_tape, .inr (6, [.ref d_tape_bytes, .int d_tape_length])), (d_tape_bytes, .inl (kd_tape_bytes, 2400, .inl fd_tape_bytes))] H := hP
            have hD : va_D A [(d, .inr (3, [.ref d_tape, .ref d_town, .int 1, .int v_8, .int v_8, .int d_value, .int d_fault, .int d_faultPlace])), (d_tape, .inr (6, [.ref d_tape_bytes, .int d_tape_length])), (d_tape_bytes, .inl (kd_tape_bytes, 2400, .inl fd_tape_bytes))] := hD
            have hL89_203 : ∀ (k : Nat) (v_182 : Int32) (H : Heap) (locs : List Loc) (ls : Array Slot), (2147483647 - v_182.toInt).toNat < k → va_P (dC, dI) vwCl [(d, .inr (3, [.ref d_tape, .ref d_town, .int 1, .int v_8, .int v_182, .int d_value, .int d_fault, .int d_faultPlace])), (d_tape, .inr (6, [.ref d_tape_bytes, .int d_tape_length])), (d_tape_bytes, .inl (kd_tape_bytes, 2400, .inl fd_tape_bytes))] H → va_D A [(d, .inr (3, [.ref d_tape, .ref d_town, .int 1, .int v_8, .int v_182, .int d_value, .int d_fault, .int d_faultPlace])), (d_tape, .inr (6, [.ref d_tape_bytes, .int d_tape_length])), (d_tape_bytes, .inl (kd_tape_bytes, 2400, .inl fd_tape_bytes))] → va_S A s.heap H locs → lv_has ls 2 [(0, .ref d)] → W pr_ l en_ ({ frames := 1, cells := 0, slots := 0, locals := 32 }) s me_ ([.ref d]).toArray below meth c H locs 0 0 Q (F0 me_ 89 ls []) := by
              intro k
              induction k with
              | zero => intro v_182 H locs ls hmu; exact absurd hmu (Nat.not_lt_zero _)
              | succ k ih89_203 =>
                intro v_182 H locs ls hmu89  hP hD hS hl
                refine lv_aload_n hx hb dX3_step_89 rfl (lv_at hl 0 rfl) ?_
                refine va_get (D := (dC, dI)) (ci := 3) (v := .int v_182) (C := RX3) (T := TX3) (N := 8) hx hb hts inA3 hown hK hP 0 rfl rfl 4 (by decide) (hts _ w_68) (fun _ h9 => h9) rfl dX3_step_90 ?_
                refine lv_aload_n hx hb dX3_step_93 rfl (lv_at hl 0 rfl) ?_
                refine va_get (D := (dC, dI)) (ci := 3) (v := .ref d_tape) (C := RX3) (T := TX3) (N := 8) hx hb hts inA3 hown hK hP 0 rfl rfl 0 (by decide) (hts _ w_72) (fun _ h9 => h9) rfl dX3_step_94 ?_
                refine va_get (D := (dC, dI)) (ci := 6) (v := .int d_tape_length) (C := RX6) (T := TX6) (N := 2) hx hb hts inA6 hown hK hP 1 rfl rfl 1 (by decide) (hts _ w_244) (fun _ h9 => h9) rfl dX3_step_97 ?_
                have rg_205 := q_rng v_182
                refine lv_icmp_ge (tgt := 250) hx hb dX3_step_100 (by decide) (fun c_204 => ?_) (fun c_204 => ?_)
                · have ec_204 := q_ge (a := v_182.toInt) (b := d_tape_length.toInt) rfl rfl c_204
                  have hP9 := hP.sub (ws' := [(d, .inr (3, [.ref d_tape, .ref d_town, .int 1, .int v_8, .int v_182, .int d_value, .int d_fault, .int d_faultPlace])), (d_tape, .inr (6, [.ref d_tape_bytes, .int d_tape_length])), (d_tape_bytes, .inl (kd_tape_bytes, 2400, .inl fd_tape_bytes))]) [0, 1, 2] rfl
                  have hD9 := hD.sub (ws' := [(d, .inr (3, [.ref d_tape, .ref d_town, .int 1, .int v_8, .int v_182, .int d_value, .int d_fault, .int d_faultPlace])), (d_tape, .inr (6, [.ref d_tape_bytes, .int d_tape_length])), (d_tape_bytes, .inl (kd_tape_bytes, 2400, .inl fd_tape_bytes))]) [0, 1, 2] (by decide) rfl
                  have hK9 := hK.sub (tys' := []) [] rfl
                  refine gQe eQ ?_
                  exact W.vret hx hb hr (fun t9 ht hW => ⟨⟨(), rfl, trivial, 1, v_8, v_182, d_value, b_d_value, by rw [ht]; exact hP9, va_K.moved hW.alike hK9, hD9⟩, hS.F ht⟩) hS.2.2 dX3_step_250
                · have ec_204 := q_nge (a := v_182.toInt) (b := d_tape_length.toInt) rfl rfl c_204
                  refine lv_aload_n hx hb dX3_step_103 rfl (lv_at hl 0 rfl) ?_
                  refine va_get (D := (dC, dI)) (ci := 3) (v := .ref d_tape) (C := RX3) (T := TX3) (N := 8) hx hb hts inA3 hown hK hP 0 rfl rfl 0 (by decide) (hts _ w_72) (fun _ h9 => h9) rfl dX3_step_104 ?_
                  refine lv_aload_n hx hb dX3_step_107 rfl (lv_at hl 0 rfl) ?_
                  refine va_get (D := (dC, dI)) (ci := 3) (v := .int v_182) (C := RX3) (T := TX3) (N := 8) hx hb hts inA3 hown hK hP 0 rfl rfl 4 (by decide) (hts _ w_68) (fun _ h9 => h9) rfl dX3_step_108 ?_
                  have hPc := hP.sub (ws' := [(d_tape, .inr (6, [.ref d_tape_bytes, .int d_tape_length])), (d_tape_bytes, .inl (kd_tape_bytes, 2400, .inl fd_tape_bytes))]) [1, 2] rfl
                  have hDc := hD.sub (ws' := [(d_tape, .inr (6, [.ref d_tape_bytes, .int d_tape_length])), (d_tape_bytes, .inl (kd_tape_bytes, 2400, .inl fd_tape_bytes))]) [1, 2] (by decide) rfl
                  have hKc := hK.sub (tys' := [(kd_tape_bytes, .byte)]) [0] rfl
                  have hFc := va_free (wc := [(d_tape, .inr (6, [.ref d_tape_bytes, .int d_tape_length])), (d_tape_bytes, .inl (kd_tape_bytes, 2400, .inl fd_tape_bytes))]) hD hS hA [1, 2] rfl
                  refine va_calli (va_runV (As := [.int v_182]) (rest := []) ⟨hx, hb, hml, hown, hts⟩ (e_at l dC dI H.size d_tape v_182 d_tape_bytes d_tape_length kd_tape_bytes fd_tape_bytes b_d_tape_length) (cwV 1 hts (goodV w_250 w_251 w_252 w_15 w_253) rfl rfl rfl hdV_X6_at ⟨Nat.le_of_ble_eq_true rfl, Nat.le_of_ble_eq_true rfl⟩) ⟨fun a U g mk q => by obtain ⟨q0, q1, qP, qK, qD⟩ := q; exact ⟨q0, q1, qP, va_K.moved (u := U) (U := U.calling g mk a) (Vm.Alike.refl U.vm) qK, qD⟩, va_recv hKc hPc (ci := 6) (q0 := 0) rfl rfl, fun U hU hW => ⟨rfl, by rw [hU], by rw [hU]; exact hPc, va_K.moved hW.alike hKc, hDc.weaken (fun _ _ _ _ => trivial)⟩⟩ rfl rfl hl.1 rfl (lv_room (Nat.le_of_ble_eq_true rfl)) dX3_step_111 ⟨Nat.le_of_ble_eq_true rfl, Nat.le_of_ble_eq_true rfl⟩) hS (fun q _ h => hFc q h) hFc (fun r_206 u9 t9 H1 locs ht hvm hw hB hz1 hk1 hS => ?_)
                  subst hw
                  obtain ⟨hf_207, hP1, hK1, hD1⟩ := hB
                  rw [ht] at hP1
                  have hK1 := va_K.moved hvm.symm hK1
                  obtain ⟨hP, hD⟩ := va_join (wr := [(d, .inr (3, [.ref d_tape, .ref d_town, .int 1, .int v_8, .int v_182, .int d_value, .int d_fault, .int d_faultPlace]))]) (w1 := [(d_tape, .inr (6, [.ref d_tape_bytes, .int d_tape_length])), (d_tape_bytes, .inl (kd_tape_bytes, 2400, .inl fd_tape_bytes))]) hP hD [1, 2] [0] rfl rfl (by decide) (by decide) hk1 hFc hP1 hD1
                  clear hPc hDc hKc hFc hz1 hk1 hP1 hD1 hK1
                  generalize H1 = H at hP hS ⊢
                  have hP : va_P (dC, dI) vwCl [(d, .inr (3, [.ref d_tape, .ref d_town, .int 1, .int v_8, .int v_182, .int d_value, .int d_fault, .int d_faultPlace])), (d_tape, .inr (6, [.ref d_tape_bytes, .int d_tape_length])), (d_tape_bytes, .inl (kd_tape_bytes, 2400, .inl fd_tape_bytes))] H := hP
                  have hD : va_D A [(d, .inr (3, [.ref d_tape, .ref d_town, .int 1, .int v_8, .int v_182, .int d_value, .int d_fault, .int d_faultPlace])), (d_tape, .inr (6, [.ref d_tape_bytes, .int d_tape_length])), (d_tape_bytes, .inl (kd_tape_bytes, 2400, .inl fd_tape_bytes))] := hD
                  have hPc := hP.sub (ws' := []) [] rfl
                  have hDc := hD.sub (ws' := []) [] (by decide) rfl
                  have hKc := hK.sub (tys' := []) [] rfl
                  have hFc := va_free (wc := []) hD hS hA [] rfl
                  refine va_calli (va_runS (As := [.int r_206]) (rest := []) ⟨hx, hb, hml, hown, hts⟩ (d_isSmall l dC dI H.size r_206 ) (va_cwS 1 hts (goodS w_257 w_258 w_19 w_259) rfl rfl rfl hdS_X3_isSmall ⟨Nat.le_of_ble_eq_true rfl, Nat.le_of_ble_eq_true rfl⟩) ⟨fun a U g mk q => by obtain ⟨q0, q1, qP, qK, qD⟩ := q; exact ⟨q0, q1, qP, va_K.moved (u := U) (U := U.calling g mk a) (Vm.Alike.refl U.vm) qK, qD⟩, fun U hU hW => ⟨rfl, by rw [hU], by rw [hU]; exact hPc, va_K.moved hW.alike hKc, hDc.weaken (fun _ _ _ _ => trivial)⟩⟩ rfl rfl hl.1 rfl (lv_room (Nat.le_of_ble_eq_true rfl)) dX3_step_114 ⟨Nat.le_of_ble_eq_true rfl, Nat.le_of_ble_eq_true rfl⟩) hS (fun q _ h => hFc q h) hFc (fun r_208 u9 t9 H1 locs ht hvm hw hB hz1 hk1 hS => ?_)
                  subst hw
                  obtain ⟨b_r_208, hP1, hK1, hD1⟩ := hB
                  rw [ht] at hP1
                  have hK1 := va_K.moved hvm.symm hK1
                  obtain ⟨hP, hD⟩ := va_join (wr := [(d, .inr (3, [.ref d_tape, .ref d_town, .int 1, .int v_8, .int v_182, .int d_value, .int d_fault, .int d_faultPlace])), (d_tape, .inr (6, [.ref d_tape_bytes, .int d_tape_length])), (d_tape_bytes, .inl (kd_tape_bytes, 2400, .inl fd_tape_bytes))]) (w1 := []) hP hD [] [0, 1, 2] rfl rfl (by decide) (by decide) hk1 hFc hP1 hD1
                  clear hPc hDc hKc hFc hz1 hk1 hP1 hD1 hK1
                  generalize H1 = H at hP hS ⊢
                  have hP : va_P (dC, dI) vwCl [(d, .inr (3, [.ref d_tape, .ref d_town, .int 1, .int v_8, .int v_182, .int d_value, .int d_fault, .int d_faultPlace])), (d_tape, .inr (6, [.ref d_tape_bytes, .int d_tape_length])), (d_tape_bytes, .inl (kd_tape_bytes, 2400, .inl fd_tape_bytes))] H := hP
                  have hD : va_D A [(d, .inr (3, [.ref d_tape, .ref d_town, .int 1, .int v_8, .int v_182, .int d_value, .int d_fault, .int d_faultPlace])), (d_tape, .inr (6, [.ref d_tape_bytes, .int d_tape_length])), (d_tape_bytes, .inl (kd_tape_bytes, 2400, .inl fd_tape_bytes))] := hD
                  refine lv_if_eq (tgt := 250) hx hb dX3_step_117 (by decide) (fun c_209 => ?_) (fun c_209 => ?_)
                  · have ec_209 := q_eq (a := r_208.toInt) (b := 0) rfl (by decide) c_209
                    have hP9 := hP.sub (ws' := [(d, .inr (3, [.ref d_tape, .ref d_town, .int 1, .int v_8, .int v_182, .int d_value, .int d_fault, .int d_faultPlace])), (d_tape, .inr (6, [.ref d_tape_bytes, .int d_tape_length])), (d_tape_bytes, .inl (kd_tape_bytes, 2400, .inl fd_tape_bytes))]) [0, 1, 2] rfl
                    have hD9 := hD.sub (ws' := [(d, .inr (3, [.ref d_tape, .ref d_town, .int 1, .int v_8, .int v_182, .int d_value, .int d_fault, .int d_faultPlace])), (d_tape, .inr (6, [.ref d_tape_bytes, .int d_tape_length])), (d_tape_bytes, .inl (kd_tape_bytes, 2400, .inl fd_tape_bytes))]) [0, 1, 2] (by decide) rfl
                    have hK9 := hK.sub (tys' := []) [] rfl
                    refine gQe eQ ?_
                    exact W.vret hx hb hr (fun t9 ht hW => ⟨⟨(), rfl, trivial, 1, v_8, v_182, d_value, b_d_value, by rw [ht]; exact hP9, va_K.moved hW.alike hK9, hD9⟩, hS.F ht⟩) hS.2.2 dX3_step_250
                  · have ec_209 := q_neq (a := r_208.toInt) (b := 0) rfl (by decide) c_209
                    refine lv_aload_n hx hb dX3_step_120 rfl (lv_at hl 0 rfl) ?_
                    refine lv_dup hx hb dX3_step_121 rfl ?_
                    refine va_get (D := (dC, dI)) (ci := 3) (v := .int v_182) (C := RX3) (T := TX3) (N := 8) hx hb hts inA3 hown hK hP 0 rfl rfl 4 (by decide) (hts _ w_68) (fun _ h9 => h9) rfl dX3_step_122 ?_
                    refine lv_iconst (v := 1) hx hb dX3_step_125 (by decide) ?_
                    refine lv_iadd hx hb dX3_step_126 ?_
                    refine lv_topi (fun x_210 ex_210 => ?_)
                    have b_x_210 := q_add (a := v_182.toInt) (b := 1) ex_210 rfl (by decide) (by omega) (by omega)
                    refine va_put (D := (dC, dI)) (ci := 3) (v := .int x_210) (ty := tyX3 4) (C := RX3) (T := TX3) (N := 8) hx hb hts inA3 tyX3 tyX3_ok nmX3 hown hK hP hD hS 0 rfl rfl 4 (by decide) (hts _ w_68) (fun _ h9 => h9) rfl (tyX3_ok 4 (by decide)) rfl rfl (Nat.le_of_ble_eq_true rfl) dX3_step_127 (fun H locs hP hD hS => ?_)
                    have hP : va_P (dC, dI) vwCl [(d, .inr (3, [.ref d_tape, .ref d_town, .int 1, .int v_8, .int x_210, .int d_value, .int d_fault, .int d_faultPlace])), (d_tape, .inr (6, [.ref d_tape_bytes, .int d_tape_length])), (d_tape_bytes, .inl (kd_tape_bytes, 2400, .inl fd_tape_bytes))] H := hP
                    have hD : va_D A [(d, .inr (3, [.ref d_tape, .ref d_town, .int 1, .int v_8, .int x_210, .int d_value, .int d_fault, .int d_faultPlace])), (d_tape, .inr (6, [.ref d_tape_bytes, .int d_tape_length])), (d_tape_bytes, .inl (kd_tape_bytes, 2400, .inl fd_tape_bytes))] := hD
                    refine lv_goto (tgt := 89) hx hb dX3_step_130 (by decide) ?_
                    exact ih89_203 x_210 H locs ls (by omega)  hP hD hS hl
            exact hL89_203 _ v_8 H locs ls (Nat.lt_succ_self _)  hP hD hS (lv_sub hl [1] rfl)
        · have ec_39 := q_nne (a := r_37.toInt) (b := -1) rfl (by decide) c_39
          refine lv_aload_n hx hb dX3_step_69 rfl (lv_at hl 1 rfl) ?_
          refine lv_iconst (v := 0) hx hb dX3_step_70 (by decide) ?_
          refine va_put (D := (dC, dI)) (ci := 3) (v := .int 0) (ty := tyX3 2) (C := RX3) (T := TX3) (N := 8) hx hb hts inA3 tyX3 tyX3_ok nmX3 hown hK hP hD hS 0 rfl rfl 2 (by decide) (hts _ w_66) (fun _ h9 => h9) rfl (tyX3_ok 2 (by decide)) rfl rfl (Nat.le_of_ble_eq_true rfl) dX3_step_71 (fun H locs hP hD hS => ?_)
          have hP : va_P (dC, dI) vwCl [(d, .inr (3, [.ref d_tape, .ref d_town, .int 0, .int v_8, .int v_8, .int d_value, .int d_fault, .int d_faultPlace])), (d_tape, .inr (6, [.ref d_tape_bytes, .int d_tape_length])), (d_tape_bytes, .inl (kd_tape_bytes, 2400, .inl fd_tape_bytes))] H := hP
          have hD : va_D A [(d, .inr (3, [.ref d_tape, .ref d_town, .int 0, .int v_8, .int v_8, .int d_value, .int d_fault, .int d_faultPlace])), (d_tape, .inr (6, [.ref d_tape_bytes, .int d_tape_length])), (d_tape_bytes, .inl (kd_tape_bytes, 2400, .inl fd_tape_bytes))] := hD
          refine lv_goto (tgt := 250) hx hb dX3_step_74 (by decide) ?_
          have hP9 := hP.sub (ws' := [(d, .inr (3, [.ref d_tape, .ref d_town, .int 0, .int v_8, .int v_8, .int d_value, .int d_fault, .int d_faultPlace])), (d_tape, .inr (6, [.ref d_tape_bytes, .int d_tape_length])), (d_tape_bytes, .inl (kd_tape_bytes, 2400, .inl fd_tape_bytes))]) [0, 1, 2] rfl
          have hD9 := hD.sub (ws' := [(d, .inr (3, [.ref d_tape, .ref d_town, .int 0, .int v_8, .int v_8, .int d_value, .int d_fault, .int d_faultPlace])), (d_tape, .inr (6, [.ref d_tape_bytes, .int d_tape_length])), (d_tape_bytes, .inl (kd_tape_bytes, 2400, .inl fd_tape_bytes))]) [0, 1, 2] (by decide) rfl
          have hK9 := hK.sub (tys' := []) [] rfl
          refine gQe eQ ?_
          exact W.vret hx hb hr (fun t9 ht hW => ⟨⟨(), rfl, trivial, 0, v_8, v_8, d_value, b_d_value, by rw [ht]; exact hP9, va_K.moved hW.alike hK9, hD9⟩, hS.F ht⟩) hS.2.2 dX3_step_250
      refine lv_icmp_ge (tgt := 44) hx hb dX3_step_11 (by decide) (fun c_30 => ?_) (fun c_30 => ?_)
      · have ec_30 := q_ge (a := v_8.toInt) (b := d_tape_length.toInt) rfl rfl c_30
        exact hJ44_36  H locs ls   hP hD hS hl
      · have ec_30 := q_nge (a := v_8.toInt) (b := d_tape_length.toInt) rfl rfl c_30
        refine lv_aload_n hx hb dX3_step_14 rfl (lv_at hl 0 rfl) ?_
        refine va_get (D := (dC, dI)) (ci := 3) (v := .ref d_tape) (C := RX3) (T := TX3) (N := 8) hx hb hts inA3 hown hK hP 0 rfl rfl 0 (by decide) (hts _ w_72) (fun _ h9 => h9) rfl dX3_step_15 ?_
        refine lv_aload_n hx hb dX3_step_18 rfl (lv_at hl 0 rfl) ?_
        refine va_get (D := (dC, dI)) (ci := 3) (v := .int v_8) (C := RX3) (T := TX3) (N := 8) hx hb hts inA3 hown hK hP 0 rfl rfl 4 (by decide) (hts _ w_68) (fun _ h9 => h9) rfl dX3_step_19 ?_
        have hPc := hP.sub (ws' := [(d_tape, .inr (6, [.ref d_tape_bytes, .int d_tape_length])), (d_tape_bytes, .inl (kd_tape_bytes, 2400, .inl fd_tape_bytes))]) [1, 2] rfl
        have hDc := hD.sub (ws' := [(d_tape, .inr (6, [.ref d_tape_bytes, .int d_tape_length])), (d_tape_bytes, .inl (kd_tape_bytes, 2400, .inl fd_tape_bytes))]) [1, 2] (by decide) rfl
        have hKc := hK.sub (tys' := [(kd_tape_bytes, .byte)]) [0] rfl
        have hFc := va_free (wc := [(d_tape, .inr (6, [.ref d_tape_bytes, .int d_tape_length])), (d_tape_bytes, .inl (kd_tape_bytes, 2400, .inl fd_tape_bytes))]) hD hS hA [1, 2] rfl
        refine va_calli (va_runV (As := [.int v_8]) (rest := []) ⟨hx, hb, hml, hown, hts⟩ (e_at l dC dI H.size d_tape v_8 d_tape_bytes d_tape_length kd_tape_bytes fd_tape_bytes b_d_tape_length) (cwV 1 hts (goodV w_250 w_251 w_252 w_15 w_253) rfl rfl rfl hdV_X6_at ⟨Nat.le_of_ble_eq_true rfl, Nat.le_of_ble_eq_true rfl⟩) ⟨fun a U g mk q => by obtain ⟨q0, q1, qP, qK, qD⟩ := q; exact ⟨q0, q1, qP, va_K.moved (u := U) (U := U.calling g mk a) (Vm.Alike.refl U.vm) qK, qD⟩, va_recv hKc hPc (ci := 6) (q0 := 0) rfl rfl, fun U hU hW => ⟨rfl, by rw [hU], by rw [hU]; exact hPc, va_K.moved hW.alike hKc, hDc.weaken (fun _ _ _ _ => trivial)⟩⟩ rfl rfl hl.1 rfl (lv_room (Nat.le_of_ble_eq_true rfl)) dX3_step_22 ⟨Nat.le_of_ble_eq_true rfl, Nat.le_of_ble_eq_true rfl⟩) hS (fun q _ h => hFc q h) hFc (fun r_211 u9 t9 H1 locs ht hvm hw hB hz1 hk1 hS => ?_)
        subst hw
        obtain ⟨hf_212, hP1, hK1, hD1⟩ := hB
        rw [ht] at hP1
        have hK1 := va_K.moved hvm.symm hK1
        obtain ⟨hP, hD⟩ := va_join (wr := [(d, .inr (3, [.ref d_tape, .ref d_town, .int d_token, .int d_start, .int v_8, .int d_value, .int d_fault, .int d_faultPlace]))]) (w1 := [(d_tape, .inr (6, [.ref d_tape_bytes, .int d_tape_length])), (d_tape_bytes, .inl (kd_tape_bytes, 2400, .inl fd_tape_bytes))]) hP hD [1, 2] [0] rfl rfl (by decide) (by decide) hk1 hFc hP1 hD1
        clear hPc hDc hKc hFc hz1 hk1 hP1 hD1 hK1
        generalize H1 = H at hP hS ⊢
        have hP : va_P (dC, dI) vwCl [(d, .inr (3, [.ref d_tape, .ref d_town, .int d_token, .int d_start, .int v_8, .int d_value, .int d_fault, .int d_faultPlace])), (d_tape, .inr (6, [.ref d_tape_bytes, .int d_tape_length])), (d_tape_bytes, .inl (kd_tape_bytes, 2400, .inl fd_tape_bytes))] H := hP
        have hD : va_D A [(d, .inr (3, [.ref d_tape, .ref d_town, .int d_token, .int d_start, .int v_8, .int d_value, .int d_fault, .int d_faultPlace])), (d_tape, .inr (6, [.ref d_tape_bytes, .int d_tape_length])), (d_tape_bytes, .inl (kd_tape_bytes, 2400, .inl fd_tape_bytes))] := hD
        have hPc := hP.sub (ws' := []) [] rfl
        have hDc := hD.sub (ws' := []) [] (by decide) rfl
        have hKc := hK.sub (tys' := []) [] rfl
        have hFc := va_free (wc := []) hD hS hA [] rfl
        refine va_calli (va_runS (As := [.int r_211]) (rest := []) ⟨hx, hb, hml, hown, hts⟩ (d_isBlank l dC dI H.size r_211 ) (va_cwS 1 hts (goodS w_254 w_255 w_19 w_256) rfl rfl rfl hdS_X3_isBlank ⟨Nat.le_of_ble_eq_true rfl, Nat.le_of_ble_eq_true rfl⟩) ⟨fun a U g mk q => by obtain ⟨q0, q1, qP, qK, qD⟩ := q; exact ⟨q0, q1, qP, va_K.moved (u := U) (U := U.calling g mk a) (Vm.Alike.refl U.vm) qK, qD⟩, fun U hU hW => ⟨rfl, by rw [hU], by rw [hU]; exact hPc, va_K.moved hW.alike hKc, hDc.weaken (fun _ _ _ _ => trivial)⟩⟩ rfl rfl hl.1 rfl (lv_room (Nat.le_of_ble_eq_true rfl)) dX3_step_25 ⟨Nat.le_of_ble_eq_true rfl, Nat.le_of_ble_eq_true rfl⟩) hS (fun q _ h => hFc q h) hFc (fun r_213 u9 t9 H1 locs ht hvm hw hB hz1 hk1 hS => ?_)
        subst hw
        obtain ⟨b_r_213, hP1, hK1, hD1⟩ := hB
        rw [ht] at hP1
        have hK1 := va_K.moved hvm.symm hK1
        obtain ⟨hP, hD⟩ := va_join (wr := [(d, .inr (3, [.ref d_tape, .ref d_town, .int d_token, .int d_start, .int v_8, .int d_value, .int d_fault, .int d_faultPlace])), (d_tape, .inr (6, [.ref d_tape_bytes, .int d_tape_length])), (d_tape_bytes, .inl (kd_tape_bytes, 2400, .inl fd_tape_bytes))]) (w1 := []) hP hD [] [0, 1, 2] rfl rfl (by decide) (by decide) hk1 hFc hP1 hD1
        clear hPc hDc hKc hFc hz1 hk1 hP1 hD1 hK1
        generalize H1 = H at hP hS ⊢
        have hP : va_P (dC, dI) vwCl [(d, .inr (3, [.ref d_tape, .ref d_town, .int d_token, .int d_start, .int v_8, .int d_value, .int d_fault, .int d_faultPlace])), (d_tape, .inr (6, [.ref d_tape_bytes, .int d_tape_length])), (d_tape_bytes, .inl (kd_tape_bytes, 2400, .inl fd_tape_bytes))] H := hP
        have hD : va_D A [(d, .inr (3, [.ref d_tape, .ref d_town, .int d_token, .int d_start, .int v_8, .int d_value, .int d_fault, .int d_faultPlace])), (d_tape, .inr (6, [.ref d_tape_bytes, .int d_tape_length])), (d_tape_bytes, .inl (kd_tape_bytes, 2400, .inl fd_tape_bytes))] := hD
        refine lv_if_eq (tgt := 44) hx hb dX3_step_28 (by decide) (fun c_214 => ?_) (fun c_214 => ?_)
        · have ec_214 := q_eq (a := r_213.toInt) (b := 0) rfl (by decide) c_214
          exact hJ44_36  H locs ls   hP hD hS hl
        · have ec_214 := q_neq (a := r_213.toInt) (b := 0) rfl (by decide) c_214
          refine lv_aload_n hx hb dX3_step_31 rfl (lv_at hl 0 rfl) ?_
          refine lv_dup hx hb dX3_step_32 rfl ?_
          refine va_get (D := (dC, dI)) (ci := 3) (v := .int v_8) (C := RX3) (T := TX3) (N := 8) hx hb hts inA3 hown hK hP 0 rfl rfl 4 (by decide) (hts _ w_68) (fun _ h9 => h9) rfl dX3_step_33 ?_
          refine lv_iconst (v := 1) hx hb dX3_step_36 (by decide) ?_
          refine lv_iadd hx hb dX3_step_37 ?_
          refine lv_topi (fun x_215 ex_215 => ?_)
          have b_x_215 := q_add (a := v_8.toInt) (b := 1) ex_215 rfl (by decide) (by omega) (by omega)
          refine va_put (D := (dC, dI)) (ci := 3) (v := .int x_215) (ty := tyX3 4) (C := RX3) (T := TX3) (N := 8) hx hb hts inA3 tyX3 tyX3_ok nmX3 hown hK hP hD hS 0 rfl rfl 4 (by decide) (hts _ w_68) (fun _ h9 => h9) rfl (tyX3_ok 4 (by decide)) rfl rfl (Nat.le_of_ble_eq_true rfl) dX3_step_38 (fun H locs hP hD hS => ?_)
          have hP : va_P (dC, dI) vwCl [(d, .inr (3, [.ref d_tape, .ref d_town, .int d_token, .int d_start, .int x_215, .int d_value, .int d_fault, .int d_faultPlace])), (d_tape, .inr (6, [.ref d_tape_bytes, .int d_tape_length])), (d_tape_bytes, .inl (kd_tape_bytes, 2400, .inl fd_tape_bytes))] H := hP
          have hD : va_D A [(d, .inr (3, [.ref d_tape, .ref d_town, .int d_token, .int d_start, .int x_215, .int d_value, .int d_fault, .int d_faultPlace])), (d_tape, .inr (6, [.ref d_tape_bytes, .int d_tape_length])), (d_tape_bytes, .inl (kd_tape_bytes, 2400, .inl fd_tape_bytes))] := hD
          refine lv_goto (tgt := 0) hx hb dX3_step_41 (by decide) ?_
          exact ih0_29 x_215 H locs ls (by omega)  hP hD hS hl
  exact hL0_29 _ d_next s.heap [] ls (Nat.lt_succ_self _)  hP hD hS hl
set_option maxHeartbeats 4000000 in
set_option maxRecDepth 100000 in
theorem d_isWord (l : Launch) (dC : Nat → ClassId) (dI : Nat → Nat → Nat) (sz : Nat) (d : Nat) (adK : Nat → Nat) (wi : Nat) (d_tape : Nat) (d_town : Nat) (d_token : Int32) (d_start : Int32) (d_next : Int32) (d_value : Int32) (d_fault : Int32) (d_faultPlace : Int32) (d_tape_bytes : Nat) (d_tape_length : Int32) (kd_tape_bytes : ClassId) (fd_tape_bytes : Nat → Int32) (adV : Nat → Nat) (b_d_value : (0) ≤ d_value.toInt ∧ d_value.toInt ≤ 1000000) (b_d_tape_length : (0) ≤ d_tape_length.toInt ∧ d_tape_length.toInt ≤ 2400) (hwi : wi < 22) : Met l yX3_isWord (.code yX3_isWord cX3_isWord 3 (some .boolean) :: ALLW) ({ frames := 4, cells := 0, slots := 0, locals := 85 }) (va_Pc [.ref d, .ref (adK wi)] (fun U => U.heap.size = sz ∧ va_P (dC, dI) vwCl [(d, .inr (3, [.ref d_tape, .ref d_town, .int d_token, .int d_start, .int d_next, .int d_value, .int d_fault, .int d_faultPlace])), (d_tape, .inr (6, [.ref d_tape_bytes, .int d_tape_length])), (d_tape_bytes, .inl (kd_tape_bytes, 2400, .inl fd_tape_bytes))] U.heap ∧ va_K (dC, dI) vwCl [(kd_tape_bytes, .byte)] U ∧ va_D (fun _ => True) [(d, .inr (3, [.ref d_tape, .ref d_town, .int d_token, .int d_start, .int d_next, .int d_value, .int d_fault, .int d_faultPlace])), (d_tape, .inr (6, [.ref d_tape_bytes, .int d_tape_length])), (d_tape_bytes, .inl (kd_tape_bytes, 2400, .inl fd_tape_bytes))] ∧ strs adK adV (va_A [(d, .inr (3, [.ref d_tape, .ref d_town, .int d_token, .int d_start, .int d_next, .int d_value, .int d_fault, .int d_faultPlace])), (d_tape, .inr (6, [.ref d_tape_bytes, .int d_tape_length])), (d_tape_bytes, .inl (kd_tape_bytes, 2400, .inl fd_tape_bytes))] sz) U)) (va_Qi (fun (r u : Int32) => r = u) (fun (u : Int32) (t9 : State) => ((0) ≤ u.toInt ∧ u.toInt ≤ 1) ∧ va_P (dC, dI) vwCl [(d, .inr (3, [.ref d_tape, .ref d_town, .int d_token, .int d_start, .int d_next, .int d_value, .int d_fault, .int d_faultPlace])), (d_tape, .inr (6, [.ref d_tape_bytes, .int d_tape_length])), (d_tape_bytes, .inl (kd_tape_bytes, 2400, .inl fd_tape_bytes))] t9.heap ∧ va_K (dC, dI) vwCl [] t9 ∧ va_D (va_A [(d, .inr (3, [.ref d_tape, .ref d_town, .int d_token, .int d_start, .int d_next, .int d_value, .int d_fault, .int d_faultPlace])), (d_tape, .inr (6, [.ref d_tape_bytes, .int d_tape_length])), (d_tape_bytes, .inl (kd_tape_bytes, 2400, .inl fd_tape_bytes))] sz) [(d, .inr (3, [.ref d_tape, .ref d_town, .int d_token, .int d_start, .int d_next, .int d_value, .int d_fault, .int d_faultPlace])), (d_tape, .inr (6, [.ref d_tape_bytes, .int d_tape_length])), (d_tape_bytes, .inl (kd_tape_bytes, 2400, .inl fd_tape_bytes))]) (va_A [(d, .inr (3, [.ref d_tape, .ref d_town, .int d_token, .int d_start, .int d_next, .int d_value, .int d_fault, .int d_faultPlace])), (d_tape, .inr (6, [.ref d_tape_bytes, .int d_tape_length])), (d_tape_bytes, .inl (kd_tape_bytes, 2400, .inl fd_tape_bytes))] sz)) 0 0 (va_A [(d, .inr (3, [.ref d_tape, .ref d_town, .int d_token, .int d_start, .int d_next, .int d_value, .int d_fault, .int d_faultPlace])), (d_tape, .inr (6, [.ref d_tape_bytes, .int d_tape_length])), (d_tape_bytes, .inl (kd_tape_bytes, 2400, .inl fd_tape_bytes))] sz) := by
  refine Met.ofW (cc := cX3_isWord) (maxL := 3) (ret := (some .boolean)) (by decide) rfl ?_
  intro pr_ en_ s me_ args below meth c s₁ B hml hv
  obtain ⟨rfl, hsz, hP, hK, hD0, hE⟩ := hv
  have hx := B.exec
  have hb := B.bytes
  have hr := B.returns
  have hts0 := atoms_spec (ws := (.code yX3_isWord cX3_isWord 3 (some .boolean) :: ALLW)) B.pre
  have hts := fun (w : Cond) (h : w ∈ ALLW) => hts0 w (List.mem_cons_of_mem _ h)
  have hown : s.vm.findClass RX3 = some me_.cls := findClass_of_methodNamed B.named
  have hlocks := B.notSynchronized
  subst hsz
  have hD := hD0.self (sz := s.heap.size)
  generalize hAe : va_A [(d, .inr (3, [.ref d_tape, .ref d_town, .int d_token, .int d_start, .int d_next, .int d_value, .int d_fault, .int d_faultPlace])), (d_tape, .inr (6, [.ref d_tape_bytes, .int d_tape_length])), (d_tape_bytes, .inl (kd_tape_bytes, 2400, .inl fd_tape_bytes))] s.heap.size = A at hD hE ⊢
  have hA : ∀ q : Nat, s.heap.size ≤ q → A q := fun q h => by rw [← hAe]; exact Or.inr h
  have hS : va_S A s.heap s.heap [] := va_S.rf
  have hP : va_P (dC, dI) vwCl [(d, .inr (3, [.ref d_tape, .ref d_town, .int d_token, .int d_start, .int d_next, .int d_value, .int d_fault, .int d_faultPlace])), (d_tape, .inr (6, [.ref d_tape_bytes, .int d_tape_length])), (d_tape_bytes, .inl (kd_tape_bytes, 2400, .inl fd_tape_bytes))] s.heap := hP
  have hl := lv_entry ([.ref d, .ref (adK wi)]) (n := 3) (Nat.le_of_ble_eq_true rfl)
  rw [lg_entry_eq]
  generalize (lg_sl ([.ref d, .ref (adK wi)]) ++ List.replicate (3 - (lg_sl ([.ref d, .ref (adK wi)])).length) Slot.unset).toArray = ls at hl ⊢
  have hl : lv_has ls 3 [(0, .ref d), (1, .ref (adK wi))] := hl
  refine gQ (fun Q eQ => ?_)
  refine lv_aload_n hx hb dX3_isWord_0 rfl (lv_at hl 0 rfl) ?_
  refine va_get (D := (dC, dI)) (ci := 3) (v := .int d_token) (C := RX3) (T := TX3) (N := 8) hx hb hts inA3 hown hK hP 0 rfl rfl 2 (by decide) (hts _ w_66) (fun _ h9 => h9) rfl dX3_isWord_1 ?_
  refine lv_iconst (v := 1) hx hb dX3_isWord_4 (by decide) ?_
  have rg_2 := q_rng d_token
  refine lv_icmp_ne (tgt := 24) hx hb dX3_isWord_5 (by decide) (fun c_1 => ?_) (fun c_1 => ?_)
  · have ec_1 := q_ne (a := d_token.toInt) (b := 1) rfl (by decide) c_1
    refine lv_iconst (v := 0) hx hb dX3_isWord_24 (by decide) ?_
    have z_3 : (0 : Int32).toInt = 0 := by decide
    have hP9 := hP.sub (ws' := [(d, .inr (3, [.ref d_tape, .ref d_town, .int d_token, .int d_start, .int d_next, .int d_value, .int d_fault, .int d_faultPlace])), (d_tape, .inr (6, [.ref d_tape_bytes, .int d_tape_length])), (d_tape_bytes, .inl (kd_tape_bytes, 2400, .inl fd_tape_bytes))]) [0, 1, 2] rfl
    have hD9 := hD.sub (ws' := [(d, .inr (3, [.ref d_tape, .ref d_town, .int d_token, .int d_start, .int d_next, .int d_value, .int d_fault, .int d_faultPlace])), (d_tape, .inr (6, [.ref d_tape_bytes, .int d_tape_length])), (d_tape_bytes, .inl (kd_tape_bytes, 2400, .inl fd_tape_bytes))]) [0, 1, 2] (by decide) rfl
    have hK9 := hK.sub (tys' := []) [] rfl
    refine gQe eQ ?_
    exact W.zret (v := 0) hx hb hr (by decide) (fun t9 ht hW => ⟨⟨0, 0, rfl, rfl, ⟨by decide, by decide⟩, by rw [ht]; exact hP9, va_K.moved hW.alike hK9, hD9⟩, hS.F ht⟩) hS.2.2 dX3_isWord_25
  · have ec_1 := q_nne (a := d_token.toInt) (b := 1) rfl (by decide) c_1
    refine lv_aload_n hx hb dX3_isWord_8 rfl (lv_at hl 0 rfl) ?_
    refine va_get (D := (dC, dI)) (ci := 3) (v := .int d_next) (C := RX3) (T := TX3) (N := 8) hx hb hts inA3 hown hK hP 0 rfl rfl 4 (by decide) (hts _ w_68) (fun _ h9 => h9) rfl dX3_isWord_9 ?_
    refine lv_aload_n hx hb dX3_isWord_12 rfl (lv_at hl 0 rfl) ?_
    refine va_get (D := (dC, dI)) (ci := 3) (v := .int d_start) (C := RX3) (T := TX3) (N := 8) hx hb hts inA3 hown hK hP 0 rfl rfl 3 (by decide) (hts _ w_67) (fun _ h9 => h9) rfl dX3_isWord_13 ?_
    refine lv_isub hx hb dX3_isWord_16 ?_
    refine lv_topi (fun x_4 ex_4 => ?_)
    refine lv_aload_n hx hb dX3_isWord_17 rfl (lv_at hl 1 rfl) ?_
    have hPc := hP.sub (ws' := []) [] rfl
    have hDc := hD.sub (ws' := []) [] (by decide) rfl
    have hKc := hK.sub (tys' := []) [] rfl
    have hFc := va_free (wc := []) hD hS hA [] rfl
    refine va_calli (va_runV (As := []) (rest := [.int x_4]) ⟨hx, hb, hml, hown, hts⟩ (j_length l dC dI s.heap.size adK wi adV hwi) (cwV 0 hts (goodV w_282 w_283 w_284 w_285 w_286) rfl rfl rfl hdV_J0_length_8abf5 ⟨Nat.le_of_ble_eq_true rfl, Nat.le_of_ble_eq_true rfl⟩) ⟨fun a U g mk q => by obtain ⟨q0, q1, qP, qK, qD, qE⟩ := q; exact ⟨q0, q1, qP, va_K.moved (u := U) (U := U.calling g mk a) (Vm.Alike.refl U.vm) qK, qD, strs.same rfl rfl qE⟩, vk_recv hE.1 hwi hS, fun U hU hW => ⟨rfl, by rw [hU], by rw [hU]; exact hPc, va_K.moved hW.alike hKc, hDc.weaken (fun _ _ _ _ => trivial), strs.call hE hS hFc hU hW⟩⟩ rfl rfl hl.1 rfl (lv_room (Nat.le_of_ble_eq_true rfl)) dX3_isWord_18 ⟨Nat.le_of_ble_eq_true rfl, Nat.le_of_ble_eq_true rfl⟩) hS (fun q _ h => hFc q h) hFc (fun r_5 u9 t9 H1 locs ht hvm hw hB hz1 hk1 hS => ?_)
    subst hw
    obtain ⟨hf_6, hP1, hK1, hD1⟩ := hB
    have b_r_5 := len_in hwi hf_6
    have hl_7 := len_eq hwi hf_6
    rw [ht] at hP1
    have hK1 := va_K.moved hvm.symm hK1
    obtain ⟨hP, hD⟩ := va_join (wr := [(d, .inr (3, [.ref d_tape, .ref d_town, .int d_token, .int d_start, .int d_next, .int d_value, .int d_fault, .int d_faultPlace])), (d_tape, .inr (6, [.ref d_tape_bytes, .int d_tape_length])), (d_tape_bytes, .inl (kd_tape_bytes, 2400, .inl fd_tape_bytes))]) (w1 := []) hP hD [] [0, 1, 2] rfl rfl (by decide) (by decide) hk1 hFc hP1 hD1
    clear hPc hDc hKc hFc hz1 hk1 hP1 hD1 hK1
    generalize H1 = H at hP hS ⊢
    have hP : va_P (dC, dI) vwCl [(d, .inr (3, [.ref d_tape, .ref d_town, .int d_token, .int d_start, .int d_next, .int d_value, .int d_fault, .int d_faultPlace])), (d_tape, .inr (6, [.ref d_tape_bytes, .int d_tape_length])), (d_tape_bytes, .inl (kd_tape_bytes, 2400, .inl fd_tape_bytes))] H := hP
    have hD : va_D A [(d, .inr (3, [.ref d_tape, .ref d_town, .int d_token, .int d_start, .int d_next, .int d_value, .int d_fault, .int d_faultPlace])), (d_tape, .inr (6, [.ref d_tape_bytes, .int d_tape_length])), (d_tape_bytes, .inl (kd_tape_bytes, 2400, .inl fd_tape_bytes))] := hD
    have rg_9 := q_rng x_4
    refine lv_icmp_eq (tgt := 26) hx hb dX3_isWord_21 (by decide) (fun c_8 => ?_) (fun c_8 => ?_)
    · have ec_8 := q_eq (a := x_4.toInt) (b := r_5.toInt) rfl rfl c_8
      refine lv_iconst (v := 0) hx hb dX3_isWord_26 (by decide) ?_
      refine lv_istore_n (lv' := [(2, .int 0), (0, .ref d), (1, .ref (adK wi))]) hx hb dX3_isWord_27 rfl hl (by decide) rfl (fun ls hl => ?_)
      have hL28_142 : ∀ (k : Nat) (v_25 : Int32) (H : Heap) (locs : List Loc) (ls : Array Slot), (10 - v_25.toInt).toNat < k → ((0) ≤ v_25.toInt ∧ v_25.toInt ≤ 10) → va_P (dC, dI) vwCl [(d, .inr (3, [.ref d_tape, .ref d_town, .int d_token, .int d_start, .int d_next, .int d_value, .int d_fault, .int d_faultPlace])), (d_tape, .inr (6, [.ref d_tape_bytes, .int d_tape_length])), (d_tape_bytes, .inl (kd_tape_bytes, 2400, .inl fd_tape_bytes))] H → va_D A [(d, .inr (3, [.ref d_tape, .ref d_town, .int d_token, .int d_start, .int d_next, .int d_value, .int d_fault, .int d_faultPlace])), (d_tape, .inr (6, [.ref d_tape_bytes, .int d_tape_length])), (d_tape_bytes, .inl (kd_tape_bytes, 2400, .inl fd_tape_bytes))] → va_S A s.heap H locs → lv_has ls 3 [(0, .ref d), (1, .ref (adK wi)), (2, .int v_25)] → W pr_ l en_ ({ frames := 4, cells := 0, slots := 0, locals := 85 }) s me_ ([.ref d, .ref (adK wi)]).toArray below meth c H locs 0 0 Q (F0 me_ 28 ls []) := by
        intro k
        induction k with
        | zero => intro v_25 H locs ls hmu; exact absurd hmu (Nat.not_lt_zero _)
        | succ k ih28_142 =>
          intro v_25 H locs ls hmu28 b_v_25 hP hD hS hl
          refine lv_iload_n hx hb dX3_isWord_28 rfl (lv_at hl 2 rfl) ?_
          refine lv_aload_n hx hb dX3_isWord_29 rfl (lv_at hl 1 rfl) ?_
          have hPc := hP.sub (ws' := []) [] rfl
          have hDc := hD.sub (ws' := []) [] (by decide) rfl
          have hKc := hK.sub (tys' := []) [] rfl
          have hFc := va_free (wc := []) hD hS hA [] rfl
          refine va_calli (va_runV (As := []) (rest := [.int v_25]) ⟨hx, hb, hml, hown, hts⟩ (j_length l dC dI H.size adK wi adV hwi) (cwV 0 hts (goodV w_282 w_283 w_284 w_285 w_286) rfl rfl rfl hdV_J0_length_8abf5 ⟨Nat.le_of_ble_eq_true rfl, Nat.le_of_ble_eq_true rfl⟩) ⟨fun a U g mk q => by obtain ⟨q0, q1, qP, qK, qD, qE⟩ := q; exact ⟨q0, q1, qP, va_K.moved (u := U) (U := U.calling g mk a) (Vm.Alike.refl U.vm) qK, qD, strs.same rfl rfl qE⟩, vk_recv hE.1 hwi hS, fun U hU hW => ⟨rfl, by rw [hU], by rw [hU]; exact hPc, va_K.moved hW.alike hKc, hDc.weaken (fun _ _ _ _ => trivial), strs.call hE hS hFc hU hW⟩⟩ rfl rfl hl.1 rfl (lv_room (Nat.le_of_ble_eq_true rfl)) dX3_isWord_30 ⟨Nat.le_of_ble_eq_true rfl, Nat.le_of_ble_eq_true rfl⟩) hS (fun q _ h => hFc q h) hFc (fun r_143 u9 t9 H1 locs ht hvm hw hB hz1 hk1 hS => ?_)
          subst hw
          obtain ⟨hf_144, hP1, hK1, hD1⟩ := hB
          have b_r_143 := len_in hwi hf_144
          have hl_145 := len_eq hwi hf_144
          rw [ht] at hP1
          have hK1 := va_K.moved hvm.symm hK1
          obtain ⟨hP, hD⟩ := va_join (wr := [(d, .inr (3, [.ref d_tape, .ref d_town, .int d_token, .int d_start, .int d_next, .int d_value, .int d_fault, .int d_faultPlace])), (d_tape, .inr (6, [.ref d_tape_bytes, .int d_tape_length])), (d_tape_bytes, .inl (kd_tape_bytes, 2400, .inl fd_tape_bytes))]) (w1 := []) hP hD [] [0, 1, 2] rfl rfl (by decide) (by decide) hk1 hFc hP1 hD1
          clear hPc hDc hKc hFc hz1 hk1 hP1 hD1 hK1
          generalize H1 = H at hP hS ⊢
          have hP : va_P (dC, dI) vwCl [(d, .inr (3, [.ref d_tape, .ref d_town, .int d_token, .int d_start, .int d_next, .int d_value, .int d_fault, .int d_faultPlace])), (d_tape, .inr (6, [.ref d_tape_bytes, .int d_tape_length])), (d_tape_bytes, .inl (kd_tape_bytes, 2400, .inl fd_tape_bytes))] H := hP
          have hD : va_D A [(d, .inr (3, [.ref d_tape, .ref d_town, .int d_token, .int d_start, .int d_next, .int d_value, .int d_fault, .int d_faultPlace])), (d_tape, .inr (6, [.ref d_tape_bytes, .int d_tape_length])), (d_tape_bytes, .inl (kd_tape_bytes, 2400, .inl fd_tape_bytes))] := hD
          refine lv_icmp_ge (tgt := 65) hx hb dX3_isWord_33 (by decide) (fun c_146 => ?_) (fun c_146 => ?_)
          · have ec_146 := q_ge (a := v_25.toInt) (b := r_143.toInt) rfl rfl c_146
            refine lv_iconst (v := 1) hx hb dX3_isWord_65 (by decide) ?_
            have z_147 : (1 : Int32).toInt = 1 := by decide
            have hP9 := hP.sub (ws' := [(d, .inr (3, [.ref d_tape, .ref d_town, .int d_token, .int d_start, .int d_next, .int d_value, .int d_fault, .int d_faultPlace])), (d_tape, .inr (6, [.ref d_tape_bytes, .int d_tape_length])), (d_tape_bytes, .inl (kd_tape_bytes, 2400, .inl fd_tape_bytes))]) [0, 1, 2] rfl
            have hD9 := hD.sub (ws' := [(d, .inr (3, [.ref d_tape, .ref d_town, .int d_token, .int d_start, .int d_next, .int d_value, .int d_fault, .int d_faultPlace])), (d_tape, .inr (6, [.ref d_tape_bytes, .int d_tape_length])), (d_tape_bytes, .inl (kd_tape_bytes, 2400, .inl fd_tape_bytes))]) [0, 1, 2] (by decide) rfl
            have hK9 := hK.sub (tys' := []) [] rfl
            refine gQe eQ ?_
            exact W.zret (v := 1) hx hb hr (by decide) (fun t9 ht hW => ⟨⟨1, 1, rfl, rfl, ⟨by decide, by decide⟩, by rw [ht]; exact hP9, va_K.moved hW.alike hK9, hD9⟩, hS.F ht⟩) hS.2.2 dX3_isWord_66
          · have ec_146 := q_nge (a := v_25.toInt) (b := r_143.toInt) rfl rfl c_146
            refine lv_aload_n hx hb dX3_isWord_36 rfl (lv_at hl 0 rfl) ?_
            refine va_get (D := (dC, dI)) (ci := 3) (v := .ref d_tape) (C := RX3) (T := TX3) (N := 8) hx hb hts inA3 hown hK hP 0 rfl rfl 0 (by decide) (hts _ w_72) (fun _ h9 => h9) rfl dX3_isWord_37 ?_
            refine lv_aload_n hx hb dX3_isWord_40 rfl (lv_at hl 0 rfl) ?_
            refine va_get (D := (dC, dI)) (ci := 3) (v := .int d_start) (C := RX3) (T := TX3) (N := 8) hx hb hts inA3 hown hK hP 0 rfl rfl 3 (by decide) (hts _ w_67) (fun _ h9 => h9) rfl dX3_isWord_41 ?_
            refine lv_iload_n hx hb dX3_isWord_44 rfl (lv_at hl 2 rfl) ?_
            refine lv_iadd hx hb dX3_isWord_45 ?_
            refine lv_topi (fun x_148 ex_148 => ?_)
            have hPc := hP.sub (ws' := [(d_tape, .inr (6, [.ref d_tape_bytes, .int d_tape_length])), (d_tape_bytes, .inl (kd_tape_bytes, 2400, .inl fd_tape_bytes))]) [1, 2] rfl
            have hDc := hD.sub (ws' := [(d_tape, .inr (6, [.ref d_tape_bytes, .int d_tape_length])), (d_tape_bytes, .inl (kd_tape_bytes, 2400, .inl fd_tape_bytes))]) [1, 2] (by decide) rfl
            have hKc := hK.sub (tys' := [(kd_tape_bytes, .byte)]) [0] rfl
            have hFc := va_free (wc := [(d_tape, .inr (6, [.ref d_tape_bytes, .int d_tape_length])), (d_tape_bytes, .inl (kd_tape_bytes, 2400, .inl fd_tape_bytes))]) hD hS hA [1, 2] rfl
            refine va_calli (va_runV (As := [.int x_148]) (rest := []) ⟨hx, hb, hml, hown, hts⟩ (e_at l dC dI H.size d_tape x_148 d_tape_bytes d_tape_length kd_tape_bytes fd_tape_bytes b_d_tape_length) (cwV 1 hts (goodV w_250 w_251 w_252 w_15 w_253) rfl rfl rfl hdV_X6_at ⟨Nat.le_of_ble_eq_true rfl, Nat.le_of_ble_eq_true rfl⟩) ⟨fun a U g mk q => by obtain ⟨q0, q1, qP, qK, qD⟩ := q; exact ⟨q0, q1, qP, va_K.moved (u := U) (U := U.calling g mk a) (Vm.Alike.refl U.vm) qK, qD⟩, va_recv hKc hPc (ci := 6) (q0 := 0) rfl rfl, fun U hU hW => ⟨rfl, by rw [hU], by rw [hU]; exact hPc, va_K.moved hW.alike hKc, hDc.weaken (fun _ _ _ _ => trivial)⟩⟩ rfl rfl hl.1 rfl (lv_room (Nat.le_of_ble_eq_true rfl)) dX3_isWord_46 ⟨Nat.le_of_ble_eq_true rfl, Nat.le_of_ble_eq_true rfl⟩) hS (fun q _ h => hFc q h) hFc (fun r_149 u9 t9 H1 locs ht hvm hw hB hz1 hk1 hS => ?_)
            subst hw
            obtain ⟨hf_150, hP1, hK1, hD1⟩ := hB
            rw [ht] at hP1
            have hK1 := va_K.moved hvm.symm hK1
            obtain ⟨hP, hD⟩ := va_join (wr := [(d, .inr (3, [.ref d_tape, .ref d_town, .int d_token, .int d_start, .int d_next, .int d_value, .int d_fault, .int d_faultPlace]))]) (w1 := [(d_tape, .inr (6, [.ref d_tape_bytes, .int d_tape_length])), (d_tape_bytes, .inl (kd_tape_bytes, 2400, .inl fd_tape_bytes))]) hP hD [1, 2] [0] rfl rfl (by decide) (by decide) hk1 hFc hP1 hD1
            clear hPc hDc hKc hFc hz1 hk1 hP1 hD1 hK1
            generalize H1 = H at hP hS ⊢
            have hP : va_P (dC, dI) vwCl [(d, .inr (3, [.ref d_tape, .ref d_town, .int d_token, .int d_start, .int d_next, .int d_value, .int d_fault, .int d_faultPlace])), (d_tape, .inr (6, [.ref d_tape_bytes, .int d_tape_length])), (d_tape_bytes, .inl (kd_tape_bytes, 2400, .inl fd_tape_bytes))] H := hP
            have hD : va_D A [(d, .inr (3, [.ref d_tape, .ref d_town, .int d_token, .int d_start, .int d_next, .int d_value, .int d_fault, .int d_faultPlace])), (d_tape, .inr (6, [.ref d_tape_bytes, .int d_tape_length])), (d_tape_bytes, .inl (kd_tape_bytes, 2400, .inl fd_tape_bytes))] := hD
            refine lv_aload_n hx hb dX3_isWord_49 rfl (lv_at hl 1 rfl) ?_
            refine lv_iload_n hx hb dX3_isWord_50 rfl (lv_at hl 2 rfl) ?_
            have bq_151 : (0) ≤ v_25.toInt ∧ v_25.toInt ≤ 100 := ⟨by omega, by omega⟩
            have hPc := hP.sub (ws' := []) [] rfl
            have hDc := hD.sub (ws' := []) [] (by decide) rfl
            have hKc := hK.sub (tys' := []) [] rfl
            have hFc := va_free (wc := []) hD hS hA [] rfl
            refine va_calli (va_runV (As := [.int v_25]) (rest := [.int r_149]) ⟨hx, hb, hml, hown, hts⟩ (j_charAt l dC dI H.size adK wi v_25 adV bq_151 hwi (by omega)) (cwV 1 hts (goodV w_294 w_295 w_296 w_285 w_297) rfl rfl rfl hdV_J0_charAt_5068e ⟨Nat.le_of_ble_eq_true rfl, Nat.le_of_ble_eq_true rfl⟩) ⟨fun a U g mk q => by obtain ⟨q0, q1, qP, qK, qD, qE⟩ := q; exact ⟨q0, q1, qP, va_K.moved (u := U) (U := U.calling g mk a) (Vm.Alike.refl U.vm) qK, qD, strs.same rfl rfl qE⟩, vk_recv hE.1 hwi hS, fun U hU hW => ⟨rfl, by rw [hU], by rw [hU]; exact hPc, va_K.moved hW.alike hKc, hDc.weaken (fun _ _ _ _ => trivial), strs.call hE hS hFc hU hW⟩⟩ rfl rfl hl.1 rfl (lv_room (Nat.le_of_ble_eq_true rfl)) dX3_isWord_51 ⟨Nat.le_of_ble_eq_true rfl, Nat.le_of_ble_eq_true rfl⟩) hS (fun q _ h => hFc q h) hFc (fun r_152 u9 t9 H1 locs ht hvm hw hB hz1 hk1 hS => ?_)
            subst hw
            obtain ⟨hf_153, hP1, hK1, hD1⟩ := hB
            rw [ht] at hP1
            have hK1 := va_K.moved hvm.symm hK1
            obtain ⟨hP, hD⟩ := va_join (wr := [(d, .inr (3, [.ref d_tape, .ref d_town, .int d_token, .int d_start, .int d_next, .int d_value, .int d_fault, .int d_faultPlace])), (d_tape, .inr (6, [.ref d_tape_bytes, .int d_tape_length])), (d_tape_bytes, .inl (kd_tape_bytes, 2400, .inl fd_tape_bytes))]) (w1 := []) hP hD [] [0, 1, 2] rfl rfl (by decide) (by decide) hk1 hFc hP1 hD1
            clear hPc hDc hKc hFc hz1 hk1 hP1 hD1 hK1
            generalize H1 = H at hP hS ⊢
            have hP : va_P (dC, dI) vwCl [(d, .inr (3, [.ref d_tape, .ref d_town, .int d_token, .int d_start, .int d_next, .int d_value, .int d_fault, .int d_faultPlace])), (d_tape, .inr (6, [.ref d_tape_bytes, .int d_tape_length])), (d_tape_bytes, .inl (kd_tape_bytes, 2400, .inl fd_tape_bytes))] H := hP
            have hD : va_D A [(d, .inr (3, [.ref d_tape, .ref d_town, .int d_token, .int d_start, .int d_next, .int d_value, .int d_fault, .int d_faultPlace])), (d_tape, .inr (6, [.ref d_tape_bytes, .int d_tape_length])), (d_tape_bytes, .inl (kd_tape_bytes, 2400, .inl fd_tape_bytes))] := hD
            have rg_155 := q_rng r_149
            have rg_156 := q_rng r_152
            refine lv_icmp_eq (tgt := 59) hx hb dX3_isWord_54 (by decide) (fun c_154 => ?_) (fun c_154 => ?_)
            · have ec_154 := q_eq (a := r_149.toInt) (b := r_152.toInt) rfl rfl c_154
              obtain ⟨y_157, ey_157⟩ : ∃ y : Int32, y = v_25 + Int32.ofInt (1) := ⟨_, rfl⟩
              have b_y_157 := q_add (a := v_25.toInt) (b := 1) ey_157 rfl (by decide) (by omega) (by omega)
              refine lv_iinc (v := y_157) (lv' := [(2, .int y_157), (0, .ref d), (1, .ref (adK wi))]) hx hb dX3_isWord_59 hl (k := 2) rfl ey_157.symm (by decide) rfl (fun ls hl => ?_)
              refine lv_goto (tgt := 28) hx hb dX3_isWord_62 (by decide) ?_
              have bq_158 : (0) ≤ y_157.toInt ∧ y_157.toInt ≤ 10 := ⟨by omega, by omega⟩
              exact ih28_142 y_157 H locs ls (by omega) bq_158 hP hD hS (lv_sub hl [1, 2, 0] rfl)
            · have ec_154 := q_neq (a := r_149.toInt) (b := r_152.toInt) rfl rfl c_154
              refine lv_iconst (v := 0) hx hb dX3_isWord_57 (by decide) ?_
              have z_159 : (0 : Int32).toInt = 0 := by decide
              have hP9 := hP.sub (ws' := [(d, .inr (3, [.ref d_tape, .ref d_town, .int d_token, .int d_start, .int d_next, .int d_value, .int d_fault, .int d_faultPlace])), (d_tape, .inr (6, [.ref d_tape_bytes, .int d_tape_length])), (d_tape_bytes, .inl (kd_tape_bytes, 2400, .inl fd_tape_bytes))]) [0, 1, 2] rfl
              have hD9 := hD.sub (ws' := [(d, .inr (3, [.ref d_tape, .ref d_town, .int d_token, .int d_start, .int d_next, .int d_value, .int d_fault, .int d_faultPlace])), (d_tape, .inr (6, [.ref d_tape_bytes, .int d_tape_length])), (d_tape_bytes, .inl (kd_tape_bytes, 2400, .inl fd_tape_bytes))]) [0, 1, 2] (by decide) rfl
              have hK9 := hK.sub (tys' := []) [] rfl
              refine gQe eQ ?_
              exact W.zret (v := 0) hx hb hr (by decide) (fun t9 ht hW => ⟨⟨0, 0, rfl, rfl, ⟨by decide, by decide⟩, by rw [ht]; exact hP9, va_K.moved hW.alike hK9, hD9⟩, hS.F ht⟩) hS.2.2 dX3_isWord_58
      exact hL28_142 _ 0 H locs ls (Nat.lt_succ_self _) ⟨by decide, by decide⟩ hP hD hS (lv_sub hl [1, 2, 0] rfl)
    · have ec_8 := q_neq (a := x_4.toInt) (b := r_5.toInt) rfl rfl c_8
      refine lv_iconst (v := 0) hx hb dX3_isWord_24 (by decide) ?_
      have z_160 : (0 : Int32).toInt = 0 := by decide
      have hP9 := hP.sub (ws' := [(d, .inr (3, [.ref d_tape, .ref d_town, .int d_token, .int d_start, .int d_next, .int d_value, .int d_fault, .int d_faultPlace])), (d_tape, .inr (6, [.ref d_tape_bytes, .int d_tape_length])), (d_tape_bytes, .inl (kd_tape_bytes, 2400, .inl fd_tape_bytes))]) [0, 1, 2] rfl
      have hD9 := hD.sub (ws' := [(d, .inr (3, [.ref d_tape, .ref d_town, .int d_token, .int d_start, .int d_next, .int d_value, .int d_fault, .int d_faultPlace])), (d_tape, .inr (6, [.ref d_tape_bytes, .int d_tape_length])), (d_tape_bytes, .inl (kd_tape_bytes, 2400, .inl fd_tape_bytes))]) [0, 1, 2] (by decide) rfl
      have hK9 := hK.sub (tys' := []) [] rfl
      refine gQe eQ ?_
      exact W.zret (v := 0) hx hb hr (by decide) (fun t9 ht hW => ⟨⟨0, 0, rfl, rfl, ⟨by decide, by decide⟩, by rw [ht]; exact hP9, va_K.moved hW.alike hK9, hD9⟩, hS.F ht⟩) hS.2.2 dX3_isWord_25
set_option maxHeartbeats 4000000 in
set_option maxRecDepth 100000 in
theorem d_takeWord (l : Launch) (dC : Nat → ClassId) (dI : Nat → Nat → Nat) (sz : Nat) (d : Nat) (adK : Nat → Nat) (wi : Nat) (d_tape : Nat) (d_town : Nat) (d_token : Int32) (d_start : Int32) (d_next : Int32) (d_value : Int32) (d_fault : Int32) (d_faultPlace : Int32) (d_tape_bytes : Nat) (d_tape_length : Int32) (kd_tape_bytes : ClassId) (fd_tape_bytes : Nat → Int32) (adV : Nat → Nat) (b_d_value : (0) ≤ d_value.toInt ∧ d_value.toInt ≤ 1000000) (b_d_tape_length : (0) ≤ d_tape_length.toInt ∧ d_tape_length.toInt ≤ 2400) (hwi : wi < 22) : Met l yX3_takeWord (.code yX3_takeWord cX3_takeWord 2 (some .boolean) :: ALLW) ({ frames := 5, cells := 0, slots := 0, locals := 107 }) (va_Pc [.ref d, .ref (adK wi)] (fun U => U.heap.size = sz ∧ va_P (dC, dI) vwCl [(d, .inr (3, [.ref d_tape, .ref d_town, .int d_token, .int d_start, .int d_next, .int d_value, .int d_fault, .int d_faultPlace])), (d_tape, .inr (6, [.ref d_tape_bytes, .int d_tape_length])), (d_tape_bytes, .inl (kd_tape_bytes, 2400, .inl fd_tape_bytes))] U.heap ∧ va_K (dC, dI) vwCl [(kd_tape_bytes, .byte)] U ∧ va_D (fun _ => True) [(d, .inr (3, [.ref d_tape, .ref d_town, .int d_token, .int d_start, .int d_next, .int d_value, .int d_fault, .int d_faultPlace])), (d_tape, .inr (6, [.ref d_tape_bytes, .int d_tape_length])), (d_tape_bytes, .inl (kd_tape_bytes, 2400, .inl fd_tape_bytes))] ∧ strs adK adV (va_A [(d, .inr (3, [.ref d_tape, .ref d_town, .int d_token, .int d_start, .int d_next, .int d_value, .int d_fault, .int d_faultPlace])), (d_tape, .inr (6, [.ref d_tape_bytes, .int d_tape_length])), (d_tape_bytes, .inl (kd_tape_bytes, 2400, .inl fd_tape_bytes))] sz) U)) (va_Qi (fun (r u : Int32) => r = u) (fun (u : Int32) (t9 : State) => ∃ (d_tokenz : Int32) (d_startz : Int32) (d_nextz : Int32) (d_valuez : Int32) (d_faultz : Int32) (d_faultPlacez : Int32), ((0) ≤ d_valuez.toInt ∧ d_valuez.toInt ≤ 1000000) ∧ ((0) ≤ u.toInt ∧ u.toInt ≤ 1) ∧ va_P (dC, dI) vwCl [(d, .inr (3, [.ref d_tape, .ref d_town, .int d_tokenz, .int d_startz, .int d_nextz, .int d_valuez, .int d_faultz, .int d_faultPlacez])), (d_tape, .inr (6, [.ref d_tape_bytes, .int d_tape_length])), (d_tape_bytes, .inl (kd_tape_bytes, 2400, .inl fd_tape_bytes))] t9.heap ∧ va_K (dC, dI) vwCl [] t9 ∧ va_D (va_A [(d, .inr (3, [.ref d_tape, .ref d_town, .int d_token, .int d_start, .int d_next, .int d_value, .int d_fault, .int d_faultPlace])), (d_tape, .inr (6, [.ref d_tape_bytes, .int d_tape_length])), (d_tape_bytes, .inl (kd_tape_bytes, 2400, .inl fd_tape_bytes))] sz) [(d, .inr (3, [.ref d_tape, .ref d_town, .int d_tokenz, .int d_startz, .int d_nextz, .int d_valuez, .int d_faultz, .int d_faultPlacez])), (d_tape, .inr (6, [.ref d_tape_bytes, .int d_tape_length])), (d_tape_bytes, .inl (kd_tape_bytes, 2400, .inl fd_tape_bytes))]) (va_A [(d, .inr (3, [.ref d_tape, .ref d_town, .int d_token, .int d_start, .int d_next, .int d_value, .int d_fault, .int d_faultPlace])), (d_tape, .inr (6, [.ref d_tape_bytes, .int d_tape_length])), (d_tape_bytes, .inl (kd_tape_bytes, 2400, .inl fd_tape_bytes))] sz)) 0 0 (va_A [(d, .inr (3, [.ref d_tape, .ref d_town, .int d_token, .int d_start, .int d_next, .int d_value, .int d_fault, .int d_faultPlace])), (d_tape, .inr (6, [.ref d_tape_bytes, .int d_tape_length])), (d_tape_bytes, .inl (kd_tape_bytes, 2400, .inl fd_tape_bytes))] sz) := by
  refine Met.ofW (cc := cX3_takeWord) (maxL := 2) (ret := (some .boolean)) (by decide) rfl ?_
  intro pr_ en_ s me_ args below meth c s₁ B hml hv
  obtain ⟨rfl, hsz, hP, hK, hD0, hE⟩ := hv
  have hx := B.exec
  have hb := B.bytes
  have hr := B.returns
  have hts0 := atoms_spec (ws := (.code yX3_takeWord cX3_takeWord 2 (some .boolean) :: ALLW)) B.pre
  have hts := fun (w : Cond) (h : w ∈ ALLW) => hts0 w (List.mem_cons_of_mem _ h)
  have hown : s.vm.findClass RX3 = some me_.cls := findClass_of_methodNamed B.named
  have hlocks := B.notSynchronized
  subst hsz
  have hD := hD0.self (sz := s.heap.size)
  generalize hAe : va_A [(d, .inr (3, [.ref d_tape, .ref d_town, .int d_token, .int d_start, .int d_next, .int d_value, .int d_fault, .int d_faultPlace])), (d_tape, .inr (6, [.ref d_tape_bytes, .int d_tape_length])), (d_tape_bytes, .inl (kd_tape_bytes, 2400, .inl fd_tape_bytes))] s.heap.size = A at hD hE ⊢
  have hA : ∀ q : Nat, s.heap.size ≤ q → A q := fun q h => by rw [← hAe]; exact Or.inr h
  have hS : va_S A s.heap s.heap [] := va_S.rf
  have hP : va_P (dC, dI) vwCl [(d, .inr (3, [.ref d_tape, .ref d_town, .int d_token, .int d_start, .int d_next, .int d_value, .int d_fault, .int d_faultPlace])), (d_tape, .inr (6, [.ref d_tape_bytes, .int d_tape_length])), (d_tape_bytes, .inl (kd_tape_bytes, 2400, .inl fd_tape_bytes))] s.heap := hP
  have hl := lv_entry ([.ref d, .ref (adK wi)]) (n := 2) (Nat.le_of_ble_eq_true rfl)
  rw [lg_entry_eq]
  generalize (lg_sl ([.ref d, .ref (adK wi)]) ++ List.replicate (2 - (lg_sl ([.ref d, .ref (adK wi)])).length) Slot.unset).toArray = ls at hl ⊢
  have hl : lv_has ls 2 [(0, .ref d), (1, .ref (adK wi))] := hl
  refine gQ (fun Q eQ => ?_)
  refine lv_aload_n hx hb dX3_takeWord_0 rfl (lv_at hl 0 rfl) ?_
  refine lv_aload_n hx hb dX3_takeWord_1 rfl (lv_at hl 1 rfl) ?_
  have hPc := hP.sub (ws' := [(d, .inr (3, [.ref d_tape, .ref d_town, .int d_token, .int d_start, .int d_next, .int d_value, .int d_fault, .int d_faultPlace])), (d_tape, .inr (6, [.ref d_tape_bytes, .int d_tape_length])), (d_tape_bytes, .inl (kd_tape_bytes, 2400, .inl fd_tape_bytes))]) [0, 1, 2] rfl
  have hDc := hD.sub (ws' := [(d, .inr (3, [.ref d_tape, .ref d_town, .int d_token, .int d_start, .int d_next, .int d_value, .int d_fault, .int d_faultPlace])), (d_tape, .inr (6, [.ref d_tape_bytes, .int d_tape_length])), (d_tape_bytes, .inl (kd_tape_bytes, 2400, .inl fd_tape_bytes))]) [0, 1, 2] (by decide) rfl
  have hKc := hK.sub (tys' := [(kd_tape_bytes, .byte)]) [0] rfl
  have hFc := va_free (wc := [(d, .inr (3, [.ref d_tape, .ref d_town, .int d_token, .int d_start, .int d_next, .int d_value, .int d_fault, .int d_faultPlace])), (d_tape, .inr (6, [.ref d_tape_bytes, .int d_tape_length])), (d_tape_bytes, .inl (kd_tape_bytes, 2400, .inl fd_tape_bytes))]) hD hS hA [0, 1, 2] rfl
  refine va_calli (va_runV (As := [.ref (adK wi)]) (rest := []) ⟨hx, hb, hml, hown, hts⟩ (d_isWord l dC dI s.heap.size d adK wi d_tape d_town d_token d_start d_next d_value d_fault d_faultPlace d_tape_bytes d_tape_length kd_tape_bytes fd_tape_bytes adV b_d_value b_d_tape_length hwi) (cwV 1 hts (goodV w_278 w_279 w_280 w_19 w_281) rfl rfl rfl hdV_X3_isWord ⟨Nat.le_of_ble_eq_true rfl, Nat.le_of_ble_eq_true rfl⟩) ⟨fun a U g mk q => by obtain ⟨q0, q1, qP, qK, qD, qE⟩ := q; exact ⟨q0, q1, qP, va_K.moved (u := U) (U := U.calling g mk a) (Vm.Alike.refl U.vm) qK, qD, strs.same rfl rfl qE⟩, va_recv hKc hPc (ci := 3) (q0 := 0) rfl rfl, fun U hU hW => ⟨rfl, by rw [hU], by rw [hU]; exact hPc, va_K.moved hW.alike hKc, hDc.weaken (fun _ _ _ _ => trivial), strs.call hE hS hFc hU hW⟩⟩ rfl rfl hl.1 rfl (lv_room (Nat.le_of_ble_eq_true rfl)) dX3_takeWord_2 ⟨Nat.le_of_ble_eq_true rfl, Nat.le_of_ble_eq_true rfl⟩) hS (fun q _ h => hFc q h) hFc (fun r_1 u9 t9 H1 locs ht hvm hw hB hz1 hk1 hS => ?_)
  subst hw
  obtain ⟨b_r_1, hP1, hK1, hD1⟩ := hB
  rw [ht] at hP1
  have hK1 := va_K.moved hvm.symm hK1
  obtain ⟨hP, hD⟩ := va_join (wr := []) (w1 := [(d, .inr (3, [.ref d_tape, .ref d_town, .int d_token, .int d_start, .int d_next, .int d_value, .int d_fault, .int d_faultPlace])), (d_tape, .inr (6, [.ref d_tape_bytes, .int d_tape_length])), (d_tape_bytes, .inl (kd_tape_bytes, 2400, .inl fd_tape_bytes))]) hP hD [0, 1, 2] [] rfl rfl (by decide) (by decide) hk1 hFc hP1 hD1
  clear hPc hDc hKc hFc hz1 hk1 hP1 hD1 hK1
  generalize H1 = H at hP hS ⊢
  have hP : va_P (dC, dI) vwCl [(d, .inr (3, [.ref d_tape, .ref d_town, .int d_token, .int d_start, .int d_next, .int d_value, .int d_fault, .int d_faultPlace])), (d_tape, .inr (6, [.ref d_tape_bytes, .int d_tape_length])), (d_tape_bytes, .inl (kd_tape_bytes, 2400, .inl fd_tape_bytes))] H := hP
  have hD : va_D A [(d, .inr (3, [.ref d_tape, .ref d_town, .int d_token, .int d_start, .int d_next, .int d_value, .int d_fault, .int d_faultPlace])), (d_tape, .inr (6, [.ref d_tape_bytes, .int d_tape_length])), (d_tape_bytes, .inl (kd_tape_bytes, 2400, .inl fd_tape_bytes))] := hD
  refine lv_if_ne (tgt := 14) hx hb dX3_takeWord_5 (by decide) (fun c_2 => ?_) (fun c_2 => ?_)
  · have ec_2 := q_ne (a := r_1.toInt) (b := 0) rfl (by decide) c_2
    refine lv_aload_n hx hb dX3_takeWord_14 rfl (lv_at hl 0 rfl) ?_
    have hPc := hP.sub (ws' := [(d, .inr (3, [.ref d_tape, .ref d_town, .int d_token, .int d_start, .int d_next, .int d_value, .int d_fault, .int d_faultPlace])), (d_tape, .inr (6, [.ref d_tape_bytes, .int d_tape_length])), (d_tape_bytes, .inl (kd_tape_bytes, 2400, .inl fd_tape_bytes))]) [0, 1, 2] rfl
    have hDc := hD.sub (ws' := [(d, .inr (3, [.ref d_tape, .ref d_town, .int d_token, .int d_start, .int d_next, .int d_value, .int d_fault, .int d_faultPlace])), (d_tape, .inr (6, [.ref d_tape_bytes, .int d_tape_length])), (d_tape_bytes, .inl (kd_tape_bytes, 2400, .inl fd_tape_bytes))]) [0, 1, 2] (by decide) rfl
    have hKc := hK.sub (tys' := [(kd_tape_bytes, .byte)]) [0] rfl
    have hFc := va_free (wc := [(d, .inr (3, [.ref d_tape, .ref d_town, .int d_token, .int d_start, .int d_next, .int d_value, .int d_fault, .int d_faultPlace])), (d_tape, .inr (6, [.ref d_tape_bytes, .int d_tape_length])), (d_tape_bytes, .inl (kd_tape_bytes, 2400, .inl fd_tape_bytes))]) hD hS hA [0, 1, 2] rfl
    refine va_callv (va_runV (As := []) (rest := []) ⟨hx, hb, hml, hown, hts⟩ (d_step l dC dI H.size d d_tape d_town d_token d_start d_next d_value d_fault d_faultPlace d_tape_bytes d_tape_length kd_tape_bytes fd_tape_bytes b_d_value b_d_tape_length) (cwV 0 hts (goodV w_240 w_241 w_242 w_19 w_243) rfl rfl rfl hdV_X3_step ⟨Nat.le_of_ble_eq_true rfl, Nat.le_of_ble_eq_true rfl⟩) ⟨fun a U g mk q => by obtain ⟨q0, q1, qP, qK, qD⟩ := q; exact ⟨q0, q1, qP, va_K.moved (u := U) (U := U.calling g mk a) (Vm.Alike.refl U.vm) qK, qD⟩, va_recv hKc hPc (ci := 3) (q0 := 0) rfl rfl, fun U hU hW => ⟨rfl, by rw [hU], by rw [hU]; exact hPc, va_K.moved hW.alike hKc, hDc.weaken (fun _ _ _ _ => trivial)⟩⟩ rfl rfl hl.1 rfl (lv_room (Nat.le_of_ble_eq_true rfl)) dX3_takeWord_15 ⟨Nat.le_of_ble_eq_true rfl, Nat.le_of_ble_eq_true rfl⟩) hS (fun q _ h => hFc q h) hFc (fun u9 t9 H1 locs ht hvm hw hB hz1 hk1 hS => ?_)
    obtain ⟨v_4, v_5, v_6, v_7, b_v_7, hP1, hK1, hD1⟩ := hB
    rw [ht] at hP1
    have hK1 := va_K.moved hvm.symm hK1
    obtain ⟨hP, hD⟩ := va_join (wr := []) (w1 := [(d, .inr (3, [.ref d_tape, .ref d_town, .int v_4, .int v_5, .int v_6, .int v_7, .int d_fault, .int d_faultPlace])), (d_tape, .inr (6, [.ref d_tape_bytes, .int d_tape_length])), (d_tape_bytes, .inl (kd_tape_bytes, 2400, .inl fd_tape_bytes))]) hP hD [0, 1, 2] [] rfl rfl (by decide) (by decide) hk1 hFc hP1 hD1
    clear hPc hDc hKc hFc hz1 hk1 hP1 hD1 hK1
    generalize H1 = H at hP hS ⊢
    have hP : va_P (dC, dI) vwCl [(d, .inr (3, [.ref d_tape, .ref d_town, .int v_4, .int v_5, .int v_6, .int v_7, .int d_fault, .int d_faultPlace])), (d_tape, .inr (6, [.ref d_tape_bytes, .int d_tape_length])), (d_tape_bytes, .inl (kd_tape_bytes, 2400, .inl fd_tape_bytes))] H := hP
    have hD : va_D A [(d, .inr (3, [.ref d_tape, .ref d_town, .int v_4, .int v_5, .int v_6, .int v_7, .int d_fault, .int d_faultPlace])), (d_tape, .inr (6, [.ref d_tape_bytes, .int d_tape_length])), (d_tape_bytes, .inl (kd_tape_bytes, 2400, .inl fd_tape_bytes))] := hD
    refine lv_iconst (v := 1) hx hb dX3_takeWord_18 (by decide) ?_
    have z_8 : (1 : Int32).toInt = 1 := by decide
    have hP9 := hP.sub (ws' := [(d, .inr (3, [.ref d_tape, .ref d_town, .int v_4, .int v_5, .int v_6, .int v_7, .int d_fault, .int d_faultPlace])), (d_tape, .inr (6, [.ref d_tape_bytes, .int d_tape_length])), (d_tape_bytes, .inl (kd_tape_bytes, 2400, .inl fd_tape_bytes))]) [0, 1, 2] rfl
    have hD9 := hD.sub (ws' := [(d, .inr (3, [.ref d_tape, .ref d_town, .int v_4, .int v_5, .int v_6, .int v_7, .int d_fault, .int d_faultPlace])), (d_tape, .inr (6, [.ref d_tape_bytes, .int d_tape_length])), (d_tape_bytes, .inl (kd_tape_bytes, 2400, .inl fd_tape_bytes))]) [0, 1, 2] (by decide) rfl
    have hK9 := hK.sub (tys' := []) [] rfl
    refine gQe eQ ?_
    exact W.zret (v := 1) hx hb hr (by decide) (fun t9 ht hW => ⟨⟨1, 1, rfl, rfl, v_4, v_5, v_6, v_7, d_fault, d_faultPlace, b_v_7, ⟨by decide, by decide⟩, by rw [ht]; exact hP9, va_K.moved hW.alike hK9, hD9⟩, hS.F ht⟩) hS.2.2 dX3_takeWord_19
  · have ec_2 := q_nne (a := r_1.toInt) (b := 0) rfl (by decide) c_2
    refine lv_aload_n hx hb dX3_takeWord_8 rfl (lv_at hl 0 rfl) ?_
    refine lv_iconst (v := 1) hx hb dX3_takeWord_9 (by decide) ?_
    have hPc := hP.sub (ws' := [(d, .inr (3, [.ref d_tape, .ref d_town, .int d_token, .int d_start, .int d_next, .int d_value, .int d_fault, .int d_faultPlace]))]) [0] rfl
    have hDc := hD.sub (ws' := [(d, .inr (3, [.ref d_tape, .ref d_town, .int d_token, .int d_start, .int d_next, .int d_value, .int d_fault, .int d_faultPlace]))]) [0] (by decide) rfl
    have hKc := hK.sub (tys' := []) [] rfl
    have hFc := va_free (wc := [(d, .inr (3, [.ref d_tape, .ref d_town, .int d_token, .int d_start, .int d_next, .int d_value, .int d_fault, .int d_faultPlace]))]) hD hS hA [0] rfl
    refine va_calli (va_runV (As := [.int 1]) (rest := []) ⟨hx, hb, hml, hown, hts⟩ (d_fail l dC dI H.size d 1 d_tape d_town d_token d_start d_next d_value d_fault d_faultPlace b_d_value) (cwV 1 hts (goodV w_331 w_332 w_333 w_19 w_334) rfl rfl rfl hdV_X3_fail ⟨Nat.le_of_ble_eq_true rfl, Nat.le_of_ble_eq_true rfl⟩) ⟨fun a U g mk q => by obtain ⟨q0, q1, qP, qK, qD⟩ := q; exact ⟨q0, q1, qP, va_K.moved (u := U) (U := U.calling g mk a) (Vm.Alike.refl U.vm) qK, qD⟩, va_recv hKc hPc (ci := 3) (q0 := 0) rfl rfl, fun U hU hW => ⟨rfl, by rw [hU], by rw [hU]; exact hPc, va_K.moved hW.alike hKc, hDc.weaken (fun _ _ _ _ => trivial)⟩⟩ rfl rfl hl.1 rfl (lv_room (Nat.le_of_ble_eq_true rfl)) dX3_takeWord_10 ⟨Nat.le_of_ble_eq_true rfl, Nat.le_of_ble_eq_true rfl⟩) hS (fun q _ h => hFc q h) hFc (fun r_9 u9 t9 H1 locs ht hvm hw hB hz1 hk1 hS => ?_)
    subst hw
    obtain ⟨v_10, v_11, b_r_9, hP1, hK1, hD1⟩ := hB
    rw [ht] at hP1
    have hK1 := va_K.moved hvm.symm hK1
    obtain ⟨hP, hD⟩ := va_join (wr := [(d_tape, .inr (6, [.ref d_tape_bytes, .int d_tape_length])), (d_tape_bytes, .inl (kd_tape_bytes, 2400, .inl fd_tape_bytes))]) (w1 := [(d, .inr (3, [.ref d_tape, .ref d_town, .int d_token, .int d_start, .int d_next, .int d_value, .int v_10, .int v_11]))]) hP hD [0] [1, 2] rfl rfl (by decide) (by decide) hk1 hFc hP1 hD1
    clear hPc hDc hKc hFc hz1 hk1 hP1 hD1 hK1
    generalize H1 = H at hP hS ⊢
    have hP : va_P (dC, dI) vwCl [(d_tape, .inr (6, [.ref d_tape_bytes, .int d_tape_length])), (d_tape_bytes, .inl (kd_tape_bytes, 2400, .inl fd_tape_bytes)), (d, .inr (3, [.ref d_tape, .ref d_town, .int d_token, .int d_start, .int d_next, .int d_value, .int v_10, .int v_11]))] H := hP
    have hD : va_D A [(d_tape, .inr (6, [.ref d_tape_bytes, .int d_tape_length])), (d_tape_bytes, .inl (kd_tape_bytes, 2400, .inl fd_tape_bytes)), (d, .inr (3, [.ref d_tape, .ref d_town, .int d_token, .int d_start, .int d_next, .int d_value, .int v_10, .int v_11]))] := hD
    have bq_12 : (0) ≤ r_9.toInt ∧ r_9.toInt ≤ 1 := ⟨by omega, by omega⟩
    have hP9 := hP.sub (ws' := [(d, .inr (3, [.ref d_tape, .ref d_town, .int d_token, .int d_start, .int d_next, .int d_value, .int v_10, .int v_11])), (d_tape, .inr (6, [.ref d_tape_bytes, .int d_tape_length])), (d_tape_bytes, .inl (kd_tape_bytes, 2400, .inl fd_tape_bytes))]) [2, 0, 1] rfl
    have hD9 := hD.sub (ws' := [(d, .inr (3, [.ref d_tape, .ref d_town, .int d_token, .int d_start, .int d_next, .int d_value, .int v_10, .int v_11])), (d_tape, .inr (6, [.ref d_tape_bytes, .int d_tape_length])), (d_tape_bytes, .inl (kd_tape_bytes, 2400, .inl fd_tape_bytes))]) [2, 0, 1] (by decide) rfl
    have hK9 := hK.sub (tys' := []) [] rfl
    refine gQe eQ ?_
    exact W.zret (v := r_9) hx hb hr (q_nz (by omega) (by omega)) (fun t9 ht hW => ⟨⟨r_9, r_9, rfl, rfl, d_token, d_start, d_next, d_value, v_10, v_11, b_d_value, bq_12, by rw [ht]; exact hP9, va_K.moved hW.alike hK9, hD9⟩, hS.F ht⟩) hS.2.2 dX3_takeWord_13
set_option maxHeartbeats 4000000 in
set_option maxRecDepth 100000 in
theorem d_takeNumber (l : Launch) (dC : Nat → ClassId) (dI : Nat → Nat → Nat) (sz : Nat) (d : Nat) (a : Int32) (b : Int32) (d_tape : Nat) (d_town : Nat) (d_token : Int32) (d_start : Int32) (d_next : Int32) (d_value : Int32) (d_fault : Int32) (d_faultPlace : Int32) (b_d_value : (0) ≤ d_value.toInt ∧ d_value.toInt ≤ 1000000) : Met l yX3_takeNumber (.code yX3_takeNumber cX3_takeNumber 3 (some .boolean) :: ALLW) ({ frames := 1, cells := 0, slots := 0, locals := 21 }) (va_Pc [.ref d, .int a, .int b] (fun U => U.heap.size = sz ∧ va_P (dC, dI) vwCl [(d, .inr (3, [.ref d_tape, .ref d_town, .int d_token, .int d_start, .int d_next, .int d_value, .int d_fault, .int d_faultPlace]))] U.heap ∧ va_K (dC, dI) vwCl [] U ∧ va_D (fun _ => True) [(d, .inr (3, [.ref d_tape, .ref d_town, .int d_token, .int d_start, .int d_next, .int d_value, .int d_fault, .int d_faultPlace]))])) (va_Qi (fun (r u : Int32) => r = u) (fun (u : Int32) (t9 : State) => ∃ (d_faultz : Int32) (d_faultPlacez : Int32), ((0) ≤ u.toInt ∧ u.toInt ≤ 1) ∧ (u.toInt = 0 ∨ (a.toInt ≤ d_value.toInt ∧ d_value.toInt ≤ b.toInt)) ∧ va_P (dC, dI) vwCl [(d, .inr (3, [.ref d_tape, .ref d_town, .int d_token, .int d_start, .int d_next, .int d_value, .int d_faultz, .int d_faultPlacez]))] t9.heap ∧ va_K (dC, dI) vwCl [] t9 ∧ va_D (va_A [(d, .inr (3, [.ref d_tape, .ref d_town, .int d_token, .int d_start, .int d_next, .int d_value, .int d_fault, .int d_faultPlace]))] sz) [(d, .inr (3, [.ref d_tape, .ref d_town, .int d_token, .int d_start, .int d_next, .int d_value, .int d_faultz, .int d_faultPlacez]))]) (va_A [(d, .inr (3, [.ref d_tape, .ref d_town, .int d_token, .int d_start, .int d_next, .int d_value, .int d_fault, .int d_faultPlace]))] sz)) 0 0 (va_A [(d, .inr (3, [.ref d_tape, .ref d_town, .int d_token, .int d_start, .int d_next, .int d_value, .int d_fault, .int d_faultPlace]))] sz) := by
  refine Met.ofW (cc := cX3_takeNumber) (maxL := 3) (ret := (some .boolean)) (by decide) rfl ?_
  intro pr_ en_ s me_ args below meth c s₁ B hml hv
  obtain ⟨rfl, hsz, hP, hK, hD0⟩ := hv
  have hx := B.exec
  have hb := B.bytes
  have hr := B.returns
  have hts0 := atoms_spec (ws := (.code yX3_takeNumber cX3_takeNumber 3 (some .boolean) :: ALLW)) B.pre
  have hts := fun (w : Cond) (h : w ∈ ALLW) => hts0 w (List.mem_cons_of_mem _ h)
  have hown : s.vm.findClass RX3 = some me_.cls := findClass_of_methodNamed B.named
  have hlocks := B.notSynchronized
  subst hsz
  have hD := hD0.self (sz := s.heap.size)
  generalize hAe : va_A [(d, .inr (3, [.ref d_tape, .ref d_town, .int d_token, .int d_start, .int d_next, .int d_value, .int d_fault, .int d_faultPlace]))] s.heap.size = A at hD ⊢
  have hA : ∀ q : Nat, s.heap.size ≤ q → A q := fun q h => by rw [← hAe]; exact Or.inr h
  have hS : va_S A s.heap s.heap [] := va_S.rf
  have hP : va_P (dC, dI) vwCl [(d, .inr (3, [.ref d_tape, .ref d_town, .int d_token, .int d_start, .int d_next, .int d_value, .int d_fault, .int d_faultPlace]))] s.heap := hP
  have hl := lv_entry ([.ref d, .int a, .int b]) (n := 3) (Nat.le_of_ble_eq_true rfl)
  rw [lg_entry_eq]
  generalize (lg_sl ([.ref d, .int a, .int b]) ++ List.replicate (3 - (lg_sl ([.ref d, .int a, .int b])).length) Slot.unset).toArray = ls at hl ⊢
  have hl : lv_has ls 3 [(0, .ref d), (1, .int a), (2, .int b)] := hl
  refine gQ (fun Q eQ => ?_)
  refine lv_aload_n hx hb dX3_takeNumber_0 rfl (lv_at hl 0 rfl) ?_
  refine va_get (D := (dC, dI)) (ci := 3) (v := .int d_token) (C := RX3) (T := TX3) (N := 8) hx hb hts inA3 hown hK hP 0 rfl rfl 2 (by decide) (hts _ w_66) (fun _ h9 => h9) rfl dX3_takeNumber_1 ?_
  refine lv_iconst (v := 2) hx hb dX3_takeNumber_4 (by decide) ?_
  have rg_2 := q_rng d_token
  refine lv_icmp_eq (tgt := 14) hx hb dX3_takeNumber_5 (by decide) (fun c_1 => ?_) (fun c_1 => ?_)
  · have ec_1 := q_eq (a := d_token.toInt) (b := 2) rfl (by decide) c_1
    refine lv_aload_n hx hb dX3_takeNumber_14 rfl (lv_at hl 0 rfl) ?_
    refine va_get (D := (dC, dI)) (ci := 3) (v := .int d_value) (C := RX3) (T := TX3) (N := 8) hx hb hts inA3 hown hK hP 0 rfl rfl 5 (by decide) (hts _ w_69) (fun _ h9 => h9) rfl dX3_takeNumber_15 ?_
    refine lv_iload_n hx hb dX3_takeNumber_18 rfl (lv_at hl 1 rfl) ?_
    have rg_4 := q_rng a
    refine lv_icmp_lt (tgt := 30) hx hb dX3_takeNumber_19 (by decide) (fun c_3 => ?_) (fun c_3 => ?_)
    · have ec_3 := q_lt (a := d_value.toInt) (b := a.toInt) rfl rfl c_3
      refine lv_aload_n hx hb dX3_takeNumber_30 rfl (lv_at hl 0 rfl) ?_
      refine lv_iconst (v := 2) hx hb dX3_takeNumber_31 (by decide) ?_
      have hPc := hP.sub (ws' := [(d, .inr (3, [.ref d_tape, .ref d_town, .int d_token, .int d_start, .int d_next, .int d_value, .int d_fault, .int d_faultPlace]))]) [0] rfl
      have hDc := hD.sub (ws' := [(d, .inr (3, [.ref d_tape, .ref d_town, .int d_token, .int d_start, .int d_next, .int d_value, .int d_fault, .int d_faultPlace]))]) [0] (by decide) rfl
      have hKc := hK.sub (tys' := []) [] rfl
      have hFc := va_free (wc := [(d, .inr (3, [.ref d_tape, .ref d_town, .int d_token, .int d_start, .int d_next, .int d_value, .int d_fault, .int d_faultPlace]))]) hD hS hA [0] rfl
      refine va_calli (va_runV (As := [.int 2]) (rest := []) ⟨hx, hb, hml, hown, hts⟩ (d_fail l dC dI s.heap.size d 2 d_tape d_town d_token d_start d_next d_value d_fault d_faultPlace b_d_value) (cwV 1 hts (goodV w_331 w_332 w_333 w_19 w_334) rfl rfl rfl hdV_X3_fail ⟨Nat.le_of_ble_eq_true rfl, Nat.le_of_ble_eq_true rfl⟩) ⟨fun a U g mk q => by obtain ⟨q0, q1, qP, qK, qD⟩ := q; exact ⟨q0, q1, qP, va_K.moved (u := U) (U := U.calling g mk a) (Vm.Alike.refl U.vm) qK, qD⟩, va_recv hKc hPc (ci := 3) (q0 := 0) rfl rfl, fun U hU hW => ⟨rfl, by rw [hU], by rw [hU]; exact hPc, va_K.moved hW.alike hKc, hDc.weaken (fun _ _ _ _ => trivial)⟩⟩ rfl rfl hl.1 rfl (lv_room (Nat.le_of_ble_eq_true rfl)) dX3_takeNumber_32 ⟨Nat.le_of_ble_eq_true rfl, Nat.le_of_ble_eq_true rfl⟩) hS (fun q _ h => hFc q h) hFc (fun r_5 u9 t9 H1 locs ht hvm hw hB hz1 hk1 hS => ?_)
      subst hw
      obtain ⟨v_6, v_7, b_r_5, hP1, hK1, hD1⟩ := hB
      rw [ht] at hP1
      have hK1 := va_K.moved hvm.symm hK1
      obtain ⟨hP, hD⟩ := va_join (wr := []) (w1 := [(d, .inr (3, [.ref d_tape, .ref d_town, .int d_token, .int d_start, .int d_next, .int d_value, .int v_6, .int v_7]))]) hP hD [0] [] rfl rfl (by decide) (by decide) hk1 hFc hP1 hD1
      clear hPc hDc hKc hFc hz1 hk1 hP1 hD1 hK1
      generalize H1 = H at hP hS ⊢
      have hP : va_P (dC, dI) vwCl [(d, .inr (3, [.ref d_tape, .ref d_town, .int d_token, .int d_start, .int d_next, .int d_value, .int v_6, .int v_7]))] H := hP
      have hD : va_D A [(d, .inr (3, [.ref d_tape, .ref d_town, .int d_token, .int d_start, .int d_next, .int d_value, .int v_6, .int v_7]))] := hD
      refine lv_if_eq (tgt := 42) hx hb dX3_takeNumber_35 (by decide) (fun c_8 => ?_) (fun c_8 => absurd (q_neq (a := r_5.toInt) (b := 0) rfl (by decide) c_8) (by omega))
      have ec_8 := q_eq (a := r_5.toInt) (b := 0) rfl (by decide) c_8
      refine lv_iconst (v := 0) hx hb dX3_takeNumber_42 (by decide) ?_
      have z_9 : (0 : Int32).toInt = 0 := by decide
      have hP9 := hP.sub (ws' := [(d, .inr (3, [.ref d_tape, .ref d_town, .int d_token, .int d_start, .int d_next, .int d_value, .int v_6, .int v_7]))]) [0] rfl
      have hD9 := hD.sub (ws' := [(d, .inr (3, [.ref d_tape, .ref d_town, .int d_token, .int d_start, .int d_next, .int d_value, .int v_6, .int v_7]))]) [0] (by decide) rfl
      have hK9 := hK.sub (tys' := []) [] rfl
      refine gQe eQ ?_
      exact W.zret (v := 0) hx hb hr (by decide) (fun t9 ht hW => ⟨⟨0, 0, rfl, rfl, v_6, v_7, ⟨by decide, by decide⟩, (by omega), by rw [ht]; exact hP9, va_K.moved hW.alike hK9, hD9⟩, hS.F ht⟩) hS.2.2 dX3_takeNumber_43
    · have ec_3 := q_nlt (a := d_value.toInt) (b := a.toInt) rfl rfl c_3
      refine lv_aload_n hx hb dX3_takeNumber_22 rfl (lv_at hl 0 rfl) ?_
      refine va_get (D := (dC, dI)) (ci := 3) (v := .int d_value) (C := RX3) (T := TX3) (N := 8) hx hb hts inA3 hown hK hP 0 rfl rfl 5 (by decide) (hts _ w_69) (fun _ h9 => h9) rfl dX3_takeNumber_23 ?_
      refine lv_iload_n hx hb dX3_takeNumber_26 rfl (lv_at hl 2 rfl) ?_
      have rg_11 := q_rng b
      refine lv_icmp_le (tgt := 38) hx hb dX3_takeNumber_27 (by decide) (fun c_10 => ?_) (fun c_10 => ?_)
      · have ec_10 := q_le (a := d_value.toInt) (b := b.toInt) rfl rfl c_10
        refine lv_iconst (v := 1) hx hb dX3_takeNumber_38 (by decide) ?_
        refine lv_goto (tgt := 43) hx hb dX3_takeNumber_39 (by decide) ?_
        have z_12 : (1 : Int32).toInt = 1 := by decide
        have hP9 := hP.sub (ws' := [(d, .inr (3, [.ref d_tape, .ref d_town, .int d_token, .int d_start, .int d_next, .int d_value, .int d_fault, .int d_faultPlace]))]) [0] rfl
        have hD9 := hD.sub (ws' := [(d, .inr (3, [.ref d_tape, .ref d_town, .int d_token, .int d_start, .int d_next, .int d_value, .int d_fault, .int d_faultPlace]))]) [0] (by decide) rfl
        have hK9 := hK.sub (tys' := []) [] rfl
        refine gQe eQ ?_
        exact W.zret (v := 1) hx hb hr (by decide) (fun t9 ht hW => ⟨⟨1, 1, rfl, rfl, d_fault, d_faultPlace, ⟨by decide, by decide⟩, (by omega), by rw [ht]; exact hP9, va_K.moved hW.alike hK9, hD9⟩, hS.F ht⟩) hS.2.2 dX3_takeNumber_43
      · have ec_10 := q_nle (a := d_value.toInt) (b := b.toInt) rfl rfl c_10
        refine lv_aload_n hx hb dX3_takeNumber_30 rfl (lv_at hl 0 rfl) ?_
        refine lv_iconst (v := 2) hx hb dX3_takeNumber_31 (by decide) ?_
        have hPc := hP.sub (ws' := [(d, .inr (3, [.ref d_tape, .ref d_town, .int d_token, .int d_start, .int d_next, .int d_value, .int d_fault, .int d_faultPlace]))]) [0] rfl
        have hDc := hD.sub (ws' := [(d, .inr (3, [.ref d_tape, .ref d_town, .int d_token, .int d_start, .int d_next, .int d_value, .int d_fault, .int d_faultPlace]))]) [0] (by decide) rfl
        have hKc := hK.sub (tys' := []) [] rfl
        have hFc := va_free (wc := [(d, .inr (3, [.ref d_tape, .ref d_town, .int d_token, .int d_start, .int d_next, .int d_value, .int d_fault, .int d_faultPlace]))]) hD hS hA [0] rfl
        refine va_calli (va_runV (As := [.int 2]) (rest := []) ⟨hx, hb, hml, hown, hts⟩ (d_fail l dC dI s.heap.size d 2 d_tape d_town d_token d_start d_next d_value d_fault d_faultPlace b_d_value) (cwV 1 hts (goodV w_331 w_332 w_333 w_19 w_334) rfl rfl rfl hdV_X3_fail ⟨Nat.le_of_ble_eq_true rfl, Nat.le_of_ble_eq_true rfl⟩) ⟨fun a U g mk q => by obtain ⟨q0, q1, qP, qK, qD⟩ := q; exact ⟨q0, q1, qP, va_K.moved (u := U) (U := U.calling g mk a) (Vm.Alike.refl U.vm) qK, qD⟩, va_recv hKc hPc (ci := 3) (q0 := 0) rfl rfl, fun U hU hW => ⟨rfl, by rw [hU], by rw [hU]; exact hPc, va_K.moved hW.alike hKc, hDc.weaken (fun _ _ _ _ => trivial)⟩⟩ rfl rfl hl.1 rfl (lv_room (Nat.le_of_ble_eq_true rfl)) dX3_takeNumber_32 ⟨Nat.le_of_ble_eq_true rfl, Nat.le_of_ble_eq_true rfl⟩) hS (fun q _ h => hFc q h) hFc (fun r_13 u9 t9 H1 locs ht hvm hw hB hz1 hk1 hS => ?_)
        subst hw
        obtain ⟨v_14, v_15, b_r_13, hP1, hK1, hD1⟩ := hB
        rw [ht] at hP1
        have hK1 := va_K.moved hvm.symm hK1
        obtain ⟨hP, hD⟩ := va_join (wr := []) (w1 := [(d, .inr (3, [.ref d_tape, .ref d_town, .int d_token, .int d_start, .int d_next, .int d_value, .int v_14, .int v_15]))]) hP hD [0] [] rfl rfl (by decide) (by decide) hk1 hFc hP1 hD1
        clear hPc hDc hKc hFc hz1 hk1 hP1 hD1 hK1
        generalize H1 = H at hP hS ⊢
        have hP : va_P (dC, dI) vwCl [(d, .inr (3, [.ref d_tape, .ref d_town, .int d_token, .int d_start, .int d_next, .int d_value, .int v_14, .int v_15]))] H := hP
        have hD : va_D A [(d, .inr (3, [.ref d_tape, .ref d_town, .int d_token, .int d_start, .int d_next, .int d_value, .int v_14, .int v_15]))] := hD
        refine lv_if_eq (tgt := 42) hx hb dX3_takeNumber_35 (by decide) (fun c_16 => ?_) (fun c_16 => absurd (q_neq (a := r_13.toInt) (b := 0) rfl (by decide) c_16) (by omega))
        have ec_16 := q_eq (a := r_13.toInt) (b := 0) rfl (by decide) c_16
        refine lv_iconst (v := 0) hx hb dX3_takeNumber_42 (by decide) ?_
        have z_17 : (0 : Int32).toInt = 0 := by decide
        have hP9 := hP.sub (ws' := [(d, .inr (3, [.ref d_tape, .ref d_town, .int d_token, .int d_start, .int d_next, .int d_value, .int v_14, .int v_15]))]) [0] rfl
        have hD9 := hD.sub (ws' := [(d, .inr (3, [.ref d_tape, .ref d_town, .int d_token, .int d_start, .int d_next, .int d_value, .int v_14, .int v_15]))]) [0] (by decide) rfl
        have hK9 := hK.sub (tys' := []) [] rfl
        refine gQe eQ ?_
        exact W.zret (v := 0) hx hb hr (by decide) (fun t9 ht hW => ⟨⟨0, 0, rfl, rfl, v_14, v_15, ⟨by decide, by decide⟩, (by omega), by rw [ht]; exact hP9, va_K.moved hW.alike hK9, hD9⟩, hS.F ht⟩) hS.2.2 dX3_takeNumber_43
  · have ec_1 := q_neq (a := d_token.toInt) (b := 2) rfl (by decide) c_1
    refine lv_aload_n hx hb dX3_takeNumber_8 rfl (lv_at hl 0 rfl) ?_
    refine lv_iconst (v := 1) hx hb dX3_takeNumber_9 (by decide) ?_
    have hPc := hP.sub (ws' := [(d, .inr (3, [.ref d_tape, .ref d_town, .int d_token, .int d_start, .int d_next, .int d_value, .int d_fault, .int d_faultPlace]))]) [0] rfl
    have hDc := hD.sub (ws' := [(d, .inr (3, [.ref d_tape, .ref d_town, .int d_token, .int d_start, .int d_next, .int d_value, .int d_fault, .int d_faultPlace]))]) [0] (by decide) rfl
    have hKc := hK.sub (tys' := []) [] rfl
    have hFc := va_free (wc := [(d, .inr (3, [.ref d_tape, .ref d_town, .int d_token, .int d_start, .int d_next, .int d_value, .int d_fault, .int d_faultPlace]))]) hD hS hA [0] rfl
    refine va_calli (va_runV (As := [.int 1]) (rest := []) ⟨hx, hb, hml, hown, hts⟩ (d_fail l dC dI s.heap.size d 1 d_tape d_town d_token d_start d_next d_value d_fault d_faultPlace b_d_value) (cwV 1 hts (goodV w_331 w_332 w_333 w_19 w_334) rfl rfl rfl hdV_X3_fail ⟨Nat.le_of_ble_eq_true rfl, Nat.le_of_ble_eq_true rfl⟩) ⟨fun a U g mk q => by obtain ⟨q0, q1, qP, qK, qD⟩ := q; exact ⟨q0, q1, qP, va_K.moved (u := U) (U := U.calling g mk a) (Vm.Alike.refl U.vm) qK, qD⟩, va_recv hKc hPc (ci := 3) (q0 := 0) rfl rfl, fun U hU hW => ⟨rfl, by rw [hU], by rw [hU]; exact hPc, va_K.moved hW.alike hKc, hDc.weaken (fun _ _ _ _ => trivial)⟩⟩ rfl rfl hl.1 rfl (lv_room (Nat.le_of_ble_eq_true rfl)) dX3_takeNumber_10 ⟨Nat.le_of_ble_eq_true rfl, Nat.le_of_ble_eq_true rfl⟩) hS (fun q _ h => hFc q h) hFc (fun r_18 u9 t9 H1 locs ht hvm hw hB hz1 hk1 hS => ?_)
    subst hw
    obtain ⟨v_19, v_20, b_r_18, hP1, hK1, hD1⟩ := hB
    rw [ht] at hP1
    have hK1 := va_K.moved hvm.symm hK1
    obtain ⟨hP, hD⟩ := va_join (wr := []) (w1 := [(d, .inr (3, [.ref d_tape, .ref d_town, .int d_token, .int d_start, .int d_next, .int d_value, .int v_19, .int v_20]))]) hP hD [0] [] rfl rfl (by decide) (by decide) hk1 hFc hP1 hD1
    clear hPc hDc hKc hFc hz1 hk1 hP1 hD1 hK1
    generalize H1 = H at hP hS ⊢
    have hP : va_P (dC, dI) vwCl [(d, .inr (3, [.ref d_tape, .ref d_town, .int d_token, .int d_start, .int d_next, .int d_value, .int v_19, .int v_20]))] H := hP
    have hD : va_D A [(d, .inr (3, [.ref d_tape, .ref d_town, .int d_token, .int d_start, .int d_next, .int d_value, .int v_19, .int v_20]))] := hD
    have bq_21 : (0) ≤ r_18.toInt ∧ r_18.toInt ≤ 1 := ⟨by omega, by omega⟩
    have hP9 := hP.sub (ws' := [(d, .inr (3, [.ref d_tape, .ref d_town, .int d_token, .int d_start, .int d_next, .int d_value, .int v_19, .int v_20]))]) [0] rfl
    have hD9 := hD.sub (ws' := [(d, .inr (3, [.ref d_tape, .ref d_town, .int d_token, .int d_start, .int d_next, .int d_value, .int v_19, .int v_20]))]) [0] (by decide) rfl
    have hK9 := hK.sub (tys' := []) [] rfl
    refine gQe eQ ?_
    exact W.zret (v := r_18) hx hb hr (q_nz (by omega) (by omega)) (fun t9 ht hW => ⟨⟨r_18, r_18, rfl, rfl, v_19, v_20, bq_21, (by omega), by rw [ht]; exact hP9, va_K.moved hW.alike hK9, hD9⟩, hS.F ht⟩) hS.2.2 dX3_takeNumber_13
set_option maxHeartbeats 4000000 in
set_option maxRecDepth 100000 in
theorem d_takePerson (l : Launch) (dC : Nat → ClassId) (dI : Nat → Nat → Nat) (sz : Nat) (d : Nat) (a : Int32) (d_tape : Nat) (d_town : Nat) (d_token : Int32) (d_start : Int32) (d_next : Int32) (d_value : Int32) (d_fault : Int32) (d_faultPlace : Int32) (d_town_days : Int32) (d_town_post : Int32) (d_town_law : Int32) (d_town_seed : Int32) (d_town_lines : Int32) (d_town_people : Int32) (d_town_letters : Int32) (d_town_lawTold : Int32) (d_town_hours : Nat) (d_town_kind : Nat) (d_town_master : Nat) (d_town_from : Nat) (d_town_to : Nat) (d_town_on : Nat) (d_town_told : Nat) (d_town_after : Nat) (d_town_worth : Nat) (d_town_by : Nat) (b_d_value : (0) ≤ d_value.toInt ∧ d_value.toInt ≤ 1000000) (b_d_town_days : (0) ≤ d_town_days.toInt ∧ d_town_days.toInt ≤ 40) (b_d_town_post : (0) ≤ d_town_post.toInt ∧ d_town_post.toInt ≤ 9) (b_d_town_law : (0) ≤ d_town_law.toInt ∧ d_town_law.toInt ≤ 3) (b_d_town_people : (0) ≤ d_town_people.toInt ∧ d_town_people.toInt ≤ 8) (b_d_town_letters : (0) ≤ d_town_letters.toInt ∧ d_town_letters.toInt ≤ 24) (b_d_town_lawTold : (0) ≤ d_town_lawTold.toInt ∧ d_town_lawTold.toInt ≤ 1) : Met l yX3_takePerson (.code yX3_takePerson cX3_takePerson 2 (some .boolean) :: ALLW) ({ frames := 1, cells := 0, slots := 0, locals := 21 }) (va_Pc [.ref d, .int a] (fun U => U.heap.size = sz ∧ va_P (dC, dI) vwCl [(d, .inr (3, [.ref d_tape, .ref d_town, .int d_token, .int d_start, .int d_next, .int d_value, .int d_fault, .int d_faultPlace])), (d_town, .inr (7, [.int d_town_days, .int d_town_post, .int d_town_law, .int d_town_seed, .int d_town_lines, .int d_town_people, .int d_town_letters, .int d_town_lawTold, .ref d_town_hours, .ref d_town_kind, .ref d_town_master, .ref d_town_from, .ref d_town_to, .ref d_town_on, .ref d_town_told, .ref d_town_after, .ref d_town_worth, .ref d_town_by]))] U.heap ∧ va_K (dC, dI) vwCl [] U ∧ va_D (fun _ => True) [(d, .inr (3, [.ref d_tape, .ref d_town, .int d_token, .int d_start, .int d_next, .int d_value, .int d_fault, .int d_faultPlace])), (d_town, .inr (7, [.int d_town_days, .int d_town_post, .int d_town_law, .int d_town_seed, .int d_town_lines, .int d_town_people, .int d_town_letters, .int d_town_lawTold, .ref d_town_hours, .ref d_town_kind, .ref d_town_master, .ref d_town_from, .ref d_town_to, .ref d_town_on, .ref d_town_told, .ref d_town_after, .ref d_town_worth, .ref d_town_by]))])) (va_Qi (fun (r u : Int32) => r = u) (fun (u : Int32) (t9 : State) => ∃ (d_faultz : Int32) (d_faultPlacez : Int32), ((0) ≤ u.toInt ∧ u.toInt ≤ 1) ∧ (u.toInt = 0 ∨ d_value.toInt < d_town_people.toInt) ∧ va_P (dC, dI) vwCl [(d, .inr (3, [.ref d_tape, .ref d_town, .int d_token, .int d_start, .int d_next, .int d_value, .int d_faultz, .int d_faultPlacez])), (d_town, .inr (7, [.int d_town_days, .int d_town_post, .int d_town_law, .int d_town_seed, .int d_town_lines, .int d_town_people, .int d_town_letters, .int d_town_lawTold, .ref d_town_hours, .ref d_town_kind, .ref d_town_master, .ref d_town_from, .ref d_town_to, .ref d_town_on, .ref d_town_told, .ref d_town_after, .ref d_town_worth, .ref d_town_by]))] t9.heap ∧ va_K (dC, dI) vwCl [] t9 ∧ va_D (va_A [(d, .inr (3, [.ref d_tape, .ref d_town, .int d_token, .int d_start, .int d_next, .int d_value, .int d_fault, .int d_faultPlace])), (d_town, .inr (7, [.int d_town_days, .int d_town_post, .int d_town_law, .int d_town_seed, .int d_town_lines, .int d_town_people, .int d_town_letters, .int d_town_lawTold, .ref d_town_hours, .ref d_town_kind, .ref d_town_master, .ref d_town_from, .ref d_town_to, .ref d_town_on, .ref d_town_told, .ref d_town_after, .ref d_town_worth, .ref d_town_by]))] sz) [(d, .inr (3, [.ref d_tape, .ref d_town, .int d_token, .int d_start, .int d_next, .int d_value, .int d_faultz, .int d_faultPlacez])), (d_town, .inr (7, [.int d_town_days, .int d_town_post, .int d_town_law, .int d_town_seed, .int d_town_lines, .int d_town_people, .int d_town_letters, .int d_town_lawTold, .ref d_town_hours, .ref d_town_kind, .ref d_town_master, .ref d_town_from, .ref d_town_to, .ref d_town_on, .ref d_town_told, .ref d_town_after, .ref d_town_worth, .ref d_town_by]))]) (va_A [(d, .inr (3, [.ref d_tape, .ref d_town, .int d_token, .int d_start, .int d_next, .int d_value, .int d_fault, .int d_faultPlace])), (d_town, .inr (7, [.int d_town_days, .int d_town_post, .int d_town_law, .int d_town_seed, .int d_town_lines, .int d_town_people, .int d_town_letters, .int d_town_lawTold, .ref d_town_hours, .ref d_town_kind, .ref d_town_master, .ref d_town_from, .ref d_town_to, .ref d_town_on, .ref d_town_told, .ref d_town_after, .ref d_town_worth, .ref d_town_by]))] sz)) 0 0 (va_A [(d, .inr (3, [.ref d_tape, .ref d_town, .int d_token, .int d_start, .int d_next, .int d_value, .int d_fault, .int d_faultPlace])), (d_town, .inr (7, [.int d_town_days, .int d_town_post, .int d_town_law, .int d_town_seed, .int d_town_lines, .int d_town_people, .int d_town_letters, .int d_town_lawTold, .ref d_town_hours, .ref d_town_kind, .ref d_town_master, .ref d_town_from, .ref d_town_to, .ref d_town_on, .ref d_town_told, .ref d_town_after, .ref d_town_worth, .ref d_town_by]))] sz) := by
  refine Met.ofW (cc := cX3_takePerson) (maxL := 2) (ret := (some .boolean)) (by decide) rfl ?_
  intro pr_ en_ s me_ args below meth c s₁ B hml hv
  obtain ⟨rfl, hsz, hP, hK, hD0⟩ := hv
  have hx := B.exec
  have hb := B.bytes
  have hr := B.returns
  have hts0 := atoms_spec (ws := (.code yX3_takePerson cX3_takePerson 2 (some .boolean) :: ALLW)) B.pre
  have hts := fun (w : Cond) (h : w ∈ ALLW) => hts0 w (List.mem_cons_of_mem _ h)
  have hown : s.vm.findClass RX3 = some me_.cls := findClass_of_methodNamed B.named
  have hlocks := B.notSynchronized
  subst hsz
  have hD := hD0.self (sz := s.heap.size)
  generalize hAe : va_A [(d, .inr (3, [.ref d_tape, .ref d_town, .int d_token, .int d_start, .int d_next, .int d_value, .int d_fault, .int d_faultPlace])), (d_town, .inr (7, [.int d_town_days, .int d_town_post, .int d_town_law, .int d_town_seed, .int d_town_lines, .int d_town_people, .int d_town_letters, .int d_town_lawTold, .ref d_town_hours, .ref d_town_kind, .ref d_town_master, .ref d_town_from, .ref d_town_to, .ref d_town_on, .ref d_town_told, .ref d_town_after, .ref d_town_worth, .ref d_town_by]))] s.heap.size = A at hD ⊢
  have hA : ∀ q : Nat, s.heap.size ≤ q → A q := fun q h => by rw [← hAe]; exact Or.inr h
  have hS : va_S A s.heap s.heap [] := va_S.rf
  have hP : va_P (dC, dI) vwCl [(d, .inr (3, [.ref d_tape, .ref d_town, .int d_token, .int d_start, .int d_next, .int d_value, .int d_fault, .int d_faultPlace])), (d_town, .inr (7, [.int d_town_days, .int d_town_post, .int d_town_law, .int d_town_seed, .int d_town_lines, .int d_town_people, .int d_town_letters, .int d_town_lawTold, .ref d_town_hours, .ref d_town_kind, .ref d_town_master, .ref d_town_from, .ref d_town_to, .ref d_town_on, .ref d_town_told, .ref d_town_after, .ref d_town_worth, .ref d_town_by]))] s.heap := hP
  have hl := lv_entry ([.ref d, .int a]) (n := 2) (Nat.le_of_ble_eq_true rfl)
  rw [lg_entry_eq]
  generalize (lg_sl ([.ref d, .int a]) ++ List.replicate (2 - (lg_sl ([.ref d, .int a])).length) Slot.unset).toArray = ls at hl ⊢
  have hl : lv_has ls 2 [(0, .ref d), (1, .int a)] := hl
  refine gQ (fun Q eQ => ?_)
  refine lv_aload_n hx hb dX3_takePerson_0 rfl (lv_at hl 0 rfl) ?_
  refine va_get (D := (dC, dI)) (ci := 3) (v := .int d_token) (C := RX3) (T := TX3) (N := 8) hx hb hts inA3 hown hK hP 0 rfl rfl 2 (by decide) (hts _ w_66) (fun _ h9 => h9) rfl dX3_takePerson_1 ?_
  refine lv_iconst (v := 2) hx hb dX3_takePerson_4 (by decide) ?_
  have rg_2 := q_rng d_token
  refine lv_icmp_eq (tgt := 14) hx hb dX3_takePerson_5 (by decide) (fun c_1 => ?_) (fun c_1 => ?_)
  · have ec_1 := q_eq (a := d_token.toInt) (b := 2) rfl (by decide) c_1
    refine lv_aload_n hx hb dX3_takePerson_14 rfl (lv_at hl 0 rfl) ?_
    refine va_get (D := (dC, dI)) (ci := 3) (v := .int d_value) (C := RX3) (T := TX3) (N := 8) hx hb hts inA3 hown hK hP 0 rfl rfl 5 (by decide) (hts _ w_69) (fun _ h9 => h9) rfl dX3_takePerson_15 ?_
    refine lv_aload_n hx hb dX3_takePerson_18 rfl (lv_at hl 0 rfl) ?_
    refine va_get (D := (dC, dI)) (ci := 3) (v := .ref d_town) (C := RX3) (T := TX3) (N := 8) hx hb hts inA3 hown hK hP 0 rfl rfl 1 (by decide) (hts _ w_65) (fun _ h9 => h9) rfl dX3_takePerson_19 ?_
    refine va_get (D := (dC, dI)) (ci := 7) (v := .int d_town_people) (C := RX7) (T := TX7) (N := 18) hx hb hts inA7 hown hK hP 1 rfl rfl 5 (by decide) (hts _ w_343) (fun _ h9 => h9) rfl dX3_takePerson_22 ?_
    refine lv_icmp_ge (tgt := 36) hx hb dX3_takePerson_25 (by decide) (fun c_3 => ?_) (fun c_3 => ?_)
    · have ec_3 := q_ge (a := d_value.toInt) (b := d_town_people.toInt) rfl rfl c_3
      refine lv_aload_n hx hb dX3_takePerson_36 rfl (lv_at hl 0 rfl) ?_
      refine lv_iconst (v := 2) hx hb dX3_takePerson_37 (by decide) ?_
      have hPc := hP.sub (ws' := [(d, .inr (3, [.ref d_tape, .ref d_town, .int d_token, .int d_start, .int d_next, .int d_value, .int d_fault, .int d_faultPlace]))]) [0] rfl
      have hDc := hD.sub (ws' := [(d, .inr (3, [.ref d_tape, .ref d_town, .int d_token, .int d_start, .int d_next, .int d_value, .int d_fault, .int d_faultPlace]))]) [0] (by decide) rfl
      have hKc := hK.sub (tys' := []) [] rfl
      have hFc := va_free (wc := [(d, .inr (3, [.ref d_tape, .ref d_town, .int d_token, .int d_start, .int d_next, .int d_value, .int d_fault, .int d_faultPlace]))]) hD hS hA [0] rfl
      refine va_calli (va_runV (As := [.int 2]) (rest := []) ⟨hx, hb, hml, hown, hts⟩ (d_fail l dC dI s.heap.size d 2 d_tape d_town d_token d_start d_next d_value d_fault d_faultPlace b_d_value) (cwV 1 hts (goodV w_331 w_332 w_333 w_19 w_334) rfl rfl rfl hdV_X3_fail ⟨Nat.le_of_ble_eq_true rfl, Nat.le_of_ble_eq_true rfl⟩) ⟨fun a U g mk q => by obtain ⟨q0, q1, qP, qK, qD⟩ := q; exact ⟨q0, q1, qP, va_K.moved (u := U) (U := U.calling g mk a) (Vm.Alike.refl U.vm) qK, qD⟩, va_recv hKc hPc (ci := 3) (q0 := 0) rfl rfl, fun U hU hW => ⟨rfl, by rw [hU], by rw [hU]; exact hPc, va_K.moved hW.alike hKc, hDc.weaken (fun _ _ _ _ => trivial)⟩⟩ rfl rfl hl.1 rfl (lv_room (Nat.le_of_ble_eq_true rfl)) dX3_takePerson_38 ⟨Nat.le_of_ble_eq_true rfl, Nat.le_of_ble_eq_true rfl⟩) hS (fun q _ h => hFc q h) hFc (fun r_4 u9 t9 H1 locs ht hvm hw hB hz1 hk1 hS => ?_)
      subst hw
      obtain ⟨v_5, v_6, b_r_4, hP1, hK1, hD1⟩ := hB
      rw [ht] at hP1
      have hK1 := va_K.moved hvm.symm hK1
      obtain ⟨hP, hD⟩ := va_join (wr := [(d_town, .inr (7, [.int d_town_days, .int d_town_post, .int d_town_law, .int d_town_seed, .int d_town_lines, .int d_town_people, .int d_town_letters, .int d_town_lawTold, .ref d_town_hours, .ref d_town_kind, .ref d_town_master, .ref d_town_from, .ref d_town_to, .ref d_town_on, .ref d_town_told, .ref d_town_after, .ref d_town_worth, .ref d_town_by]))]) (w1 := [(d, .inr (3, [.ref d_tape, .ref d_town, .int d_token, .int d_start, .int d_next, .int d_value, .int v_5, .int v_6]))]) hP hD [0] [1] rfl rfl (by decide) (by decide) hk1 hFc hP1 hD1
      clear hPc hDc hKc hFc hz1 hk1 hP1 hD1 hK1
      generalize H1 = H at hP hS ⊢
      have hP : va_P (dC, dI) vwCl [(d_town, .inr (7, [.int d_town_days, .int d_town_post, .int d_town_law, .int d_town_seed, .int d_town_lines, .int d_town_people, .int d_town_letters, .int d_town_lawTold, .ref d_town_hours, .ref d_town_kind, .ref d_town_master, .ref d_town_from, .ref d_town_to, .ref d_town_on, .ref d_town_told, .ref d_town_after, .ref d_town_worth, .ref d_town_by])), (d, .inr (3, [.ref d_tape, .ref d_town, .int d_token, .int d_start, .int d_next, .int d_value, .int v_5, .int v_6]))] H := hP
      have hD : va_D A [(d_town, .inr (7, [.int d_town_days, .int d_town_post, .int d_town_law, .int d_town_seed, .int d_town_lines, .int d_town_people, .int d_town_letters, .int d_town_lawTold, .ref d_town_hours, .ref d_town_kind, .ref d_town_master, .ref d_town_from, .ref d_town_to, .ref d_town_on, .ref d_town_told, .ref d_town_after, .ref d_town_worth, .ref d_town_by])), (d, .inr (3, [.ref d_tape, .ref d_town, .int d_token, .int d_start, .int d_next, .int d_value, .int v_5, .int v_6]))] := hD
      refine lv_if_eq (tgt := 48) hx hb dX3_takePerson_41 (by decide) (fun c_7 => ?_) (fun c_7 => absurd (q_neq (a := r_4.toInt) (b := 0) rfl (by decide) c_7) (by omega))
      have ec_7 := q_eq (a := r_4.toInt) (b := 0) rfl (by decide) c_7
      refine lv_iconst (v := 0) hx hb dX3_takePerson_48 (by decide) ?_
      have z_8 : (0 : Int32).toInt = 0 := by decide
      have hP9 := hP.sub (ws' := [(d, .inr (3, [.ref d_tape, .ref d_town, .int d_token, .int d_start, .int d_next, .int d_value, .int v_5, .int v_6])), (d_town, .inr (7, [.int d_town_days, .int d_town_post, .int d_town_law, .int d_town_seed, .int d_town_lines, .int d_town_people, .int d_town_letters, .int d_town_lawTold, .ref d_town_hours, .ref d_town_kind, .ref d_town_master, .ref d_town_from, .ref d_town_to, .ref d_town_on, .ref d_town_told, .ref d_town_after, .ref d_town_worth, .ref d_town_by]))]) [1, 0] rfl
      have hD9 := hD.sub (ws' := [(d, .inr (3, [.ref d_tape, .ref d_town, .int d_token, .int d_start, .int d_next, .int d_value, .int v_5, .int v_6])), (d_town, .inr (7, [.int d_town_days, .int d_town_post, .int d_town_law, .int d_town_seed, .int d_town_lines, .int d_town_people, .int d_town_letters, .int d_town_lawTold, .ref d_town_hours, .ref d_town_kind, .ref d_town_master, .ref d_town_from, .ref d_town_to, .ref d_town_on, .ref d_town_told, .ref d_town_after, .ref d_town_worth, .ref d_town_by]))]) [1, 0] (by decide) rfl
      have hK9 := hK.sub (tys' := []) [] rfl
      refine gQe eQ ?_
      exact W.zret (v := 0) hx hb hr (by decide) (fun t9 ht hW => ⟨⟨0, 0, rfl, rfl, v_5, v_6, ⟨by decide, by decide⟩, (by omega), by rw [ht]; exact hP9, va_K.moved hW.alike hK9, hD9⟩, hS.F ht⟩) hS.2.2 dX3_takePerson_49
    · have ec_3 := q_nge (a := d_value.toInt) (b := d_town_people.toInt) rfl rfl c_3
      refine lv_aload_n hx hb dX3_takePerson_28 rfl (lv_at hl 0 rfl) ?_
      refine va_get (D := (dC, dI)) (ci := 3) (v := .int d_value) (C := RX3) (T := TX3) (N := 8) hx hb hts inA3 hown hK hP 0 rfl rfl 5 (by decide) (hts _ w_69) (fun _ h9 => h9) rfl dX3_takePerson_29 ?_
      refine lv_iload_n hx hb dX3_takePerson_32 rfl (lv_at hl 1 rfl) ?_
      have rg_10 := q_rng a
      refine lv_icmp_ne (tgt := 44) hx hb dX3_takePerson_33 (by decide) (fun c_9 => ?_) (fun c_9 => ?_)
      · have ec_9 := q_ne (a := d_value.toInt) (b := a.toInt) rfl rfl c_9
        refine lv_iconst (v := 1) hx hb dX3_takePerson_44 (by decide) ?_
        refine lv_goto (tgt := 49) hx hb dX3_takePerson_45 (by decide) ?_
        have z_11 : (1 : Int32).toInt = 1 := by decide
        have hP9 := hP.sub (ws' := [(d, .inr (3, [.ref d_tape, .ref d_town, .int d_token, .int d_start, .int d_next, .int d_value, .int d_fault, .int d_faultPlace])), (d_town, .inr (7, [.int d_town_days, .int d_town_post, .int d_town_law, .int d_town_seed, .int d_town_lines, .int d_town_people, .int d_town_letters, .int d_town_lawTold, .ref d_town_hours, .ref d_town_kind, .ref d_town_master, .ref d_town_from, .ref d_town_to, .ref d_town_on, .ref d_town_told, .ref d_town_after, .ref d_town_worth, .ref d_town_by]))]) [0, 1] rfl
        have hD9 := hD.sub (ws' := [(d, .inr (3, [.ref d_tape, .ref d_town, .int d_token, .int d_start, .int d_next, .int d_value, .int d_fault, .int d_faultPlace])), (d_town, .inr (7, [.int d_town_days, .int d_town_post, .int d_town_law, .int d_town_seed, .int d_town_lines, .int d_town_people, .int d_town_letters, .int d_town_lawTold, .ref d_town_hours, .ref d_town_kind, .ref d_town_master, .ref d_town_from, .ref d_town_to, .ref d_town_on, .ref d_town_told, .ref d_town_after, .ref d_town_worth, .ref d_town_by]))]) [0, 1] (by decide) rfl
        have hK9 := hK.sub (tys' := []) [] rfl
        refine gQe eQ ?_
        exact W.zret (v := 1) hx hb hr (by decide) (fun t9 ht hW => ⟨⟨1, 1, rfl, rfl, d_fault, d_faultPlace, ⟨by decide, by decide⟩, (by omega), by rw [ht]; exact hP9, va_K.moved hW.alike hK9, hD9⟩, hS.F ht⟩) hS.2.2 dX3_takePerson_49
      · have ec_9 := q_nne (a := d_value.toInt) (b := a.toInt) rfl rfl c_9
        refine lv_aload_n hx hb dX3_takePerson_36 rfl (lv_at hl 0 rfl) ?_
        refine lv_iconst (v := 2) hx hb dX3_takePerson_37 (by decide) ?_
        have hPc := hP.sub (ws' := [(d, .inr (3, [.ref d_tape, .ref d_town, .int d_token, .int d_start, .int d_next, .int d_value, .int d_fault, .int d_faultPlace]))]) [0] rfl
        have hDc := hD.sub (ws' := [(d, .inr (3, [.ref d_tape, .ref d_town, .int d_token, .int d_start, .int d_next, .int d_value, .int d_fault, .int d_faultPlace]))]) [0] (by decide) rfl
        have hKc := hK.sub (tys' := []) [] rfl
        have hFc := va_free (wc := [(d, .inr (3, [.ref d_tape, .ref d_town, .int d_token, .int d_start, .int d_next, .int d_value, .int d_fault, .int d_faultPlace]))]) hD hS hA [0] rfl
        refine va_calli (va_runV (As := [.int 2]) (rest := []) ⟨hx, hb, hml, hown, hts⟩ (d_fail l dC dI s.heap.size d 2 d_tape d_town d_token d_start d_next d_value d_fault d_faultPlace b_d_value) (cwV 1 hts (goodV w_331 w_332 w_333 w_19 w_334) rfl rfl rfl hdV_X3_fail ⟨Nat.le_of_ble_eq_true rfl, Nat.le_of_ble_eq_true rfl⟩) ⟨fun a U g mk q => by obtain ⟨q0, q1, qP, qK, qD⟩ := q; exact ⟨q0, q1, qP, va_K.moved (u := U) (U := U.calling g mk a) (Vm.Alike.refl U.vm) qK, qD⟩, va_recv hKc hPc (ci := 3) (q0 := 0) rfl rfl, fun U hU hW => ⟨rfl, by rw [hU], by rw [hU]; exact hPc, va_K.moved hW.alike hKc, hDc.weaken (fun _ _ _ _ => trivial)⟩⟩ rfl rfl hl.1 rfl (lv_room (Nat.le_of_ble_eq_true rfl)) dX3_takePerson_38 ⟨Nat.le_of_ble_eq_true rfl, Nat.le_of_ble_eq_true rfl⟩) hS (fun q _ h => hFc q h) hFc (fun r_12 u9 t9 H1 locs ht hvm hw hB hz1 hk1 hS => ?_)
        subst hw
        obtain ⟨v_13, v_14, b_r_12, hP1, hK1, hD1⟩ := hB
        rw [ht] at hP1
        have hK1 := va_K.moved hvm.symm hK1
        obtain ⟨hP, hD⟩ := va_join (wr := [(d_town, .inr (7, [.int d_town_days, .int d_town_post, .int d_town_law, .int d_town_seed, .int d_town_lines, .int d_town_people, .int d_town_letters, .int d_town_lawTold, .ref d_town_hours, .ref d_town_kind, .ref d_town_master, .ref d_town_from, .ref d_town_to, .ref d_town_on, .ref d_town_told, .ref d_town_after, .ref d_town_worth, .ref d_town_by]))]) (w1 := [(d, .inr (3, [.ref d_tape, .ref d_town, .int d_token, .int d_start, .int d_next, .int d_value, .int v_13, .int v_14]))]) hP hD [0] [1] rfl rfl (by decide) (by decide) hk1 hFc hP1 hD1
        clear hPc hDc hKc hFc hz1 hk1 hP1 hD1 hK1
        generalize H1 = H at hP hS ⊢
        have hP : va_P (dC, dI) vwCl [(d_town, .inr (7, [.int d_town_days, .int d_town_post, .int d_town_law, .int d_town_seed, .int d_town_lines, .int d_town_people, .int d_town_letters, .int d_town_lawTold, .ref d_town_hours, .ref d_town_kind, .ref d_town_master, .ref d_town_from, .ref d_town_to, .ref d_town_on, .ref d_town_told, .ref d_town_after, .ref d_town_worth, .ref d_town_by])), (d, .inr (3, [.ref d_tape, .ref d_town, .int d_token, .int d_start, .int d_next, .int d_value, .int v_13, .int v_14]))] H := hP
        have hD : va_D A [(d_town, .inr (7, [.int d_town_days, .int d_town_post, .int d_town_law, .int d_town_seed, .int d_town_lines, .int d_town_people, .int d_town_letters, .int d_town_lawTold, .ref d_town_hours, .ref d_town_kind, .ref d_town_master, .ref d_town_from, .ref d_town_to, .ref d_town_on, .ref d_town_told, .ref d_town_after, .ref d_town_worth, .ref d_town_by])), (d, .inr (3, [.ref d_tape, .ref d_town, .int d_token, .int d_start, .int d_next, .int d_value, .int v_13, .int v_14]))] := hD
        refine lv_if_eq (tgt := 48) hx hb dX3_takePerson_41 (by decide) (fun c_15 => ?_) (fun c_15 => absurd (q_neq (a := r_12.toInt) (b := 0) rfl (by decide) c_15) (by omega))
        have ec_15 := q_eq (a := r_12.toInt) (b := 0) rfl (by decide) c_15
        refine lv_iconst (v := 0) hx hb dX3_takePerson_48 (by decide) ?_
        have z_16 : (0 : Int32).toInt = 0 := by decide
        have hP9 := hP.sub (ws' := [(d, .inr (3, [.ref d_tape, .ref d_town, .int d_token, .int d_start, .int d_next, .int d_value, .int v_13, .int v_14])), (d_town, .inr (7, [.int d_town_days, .int d_town_post, .int d_town_law, .int d_town_seed, .int d_town_lines, .int d_town_people, .int d_town_letters, .int d_town_lawTold, .ref d_town_hours, .ref d_town_kind, .ref d_town_master, .ref d_town_from, .ref d_town_to, .ref d_town_on, .ref d_town_told, .ref d_town_after, .ref d_town_worth, .ref d_town_by]))]) [1, 0] rfl
        have hD9 := hD.sub (ws' := [(d, .inr (3, [.ref d_tape, .ref d_town, .int d_token, .int d_start, .int d_next, .int d_value, .int v_13, .int v_14])), (d_town, .inr (7, [.int d_town_days, .int d_town_post, .int d_town_law, .int d_town_seed, .int d_town_lines, .int d_town_people, .int d_town_letters, .int d_town_lawTold, .ref d_town_hours, .ref d_town_kind, .ref d_town_master, .ref d_town_from, .ref d_town_to, .ref d_town_on, .ref d_town_told, .ref d_town_after, .ref d_town_worth, .ref d_town_by]))]) [1, 0] (by decide) rfl
        have hK9 := hK.sub (tys' := []) [] rfl
        refine gQe eQ ?_
        exact W.zret (v := 0) hx hb hr (by decide) (fun t9 ht hW => ⟨⟨0, 0, rfl, rfl, v_13, v_14, ⟨by decide, by decide⟩, (by omega), by rw [ht]; exact hP9, va_K.moved hW.alike hK9, hD9⟩, hS.F ht⟩) hS.2.2 dX3_takePerson_49
  · have ec_1 := q_neq (a := d_token.toInt) (b := 2) rfl (by decide) c_1
    refine lv_aload_n hx hb dX3_takePerson_8 rfl (lv_at hl 0 rfl) ?_
    refine lv_iconst (v := 1) hx hb dX3_takePerson_9 (by decide) ?_
    have hPc := hP.sub (ws' := [(d, .inr (3, [.ref d_tape, .ref d_town, .int d_token, .int d_start, .int d_next, .int d_value, .int d_fault, .int d_faultPlace]))]) [0] rfl
    have hDc := hD.sub (ws' := [(d, .inr (3, [.ref d_tape, .ref d_town, .int d_token, .int d_start, .int d_next, .int d_value, .int d_fault, .int d_faultPlace]))]) [0] (by decide) rfl
    have hKc := hK.sub (tys' := []) [] rfl
    have hFc := va_free (wc := [(d, .inr (3, [.ref d_tape, .ref d_town, .int d_token, .int d_start, .int d_next, .int d_value, .int d_fault, .int d_faultPlace]))]) hD hS hA [0] rfl
    refine va_calli (va_runV (As := [.int 1]) (rest := []) ⟨hx, hb, hml, hown, hts⟩ (d_fail l dC dI s.heap.size d 1 d_tape d_town d_token d_start d_next d_value d_fault d_faultPlace b_d_value) (cwV 1 hts (goodV w_331 w_332 w_333 w_19 w_334) rfl rfl rfl hdV_X3_fail ⟨Nat.le_of_ble_eq_true rfl, Nat.le_of_ble_eq_true rfl⟩) ⟨fun a U g mk q => by obtain ⟨q0, q1, qP, qK, qD⟩ := q; exact ⟨q0, q1, qP, va_K.moved (u := U) (U := U.calling g mk a) (Vm.Alike.refl U.vm) qK, qD⟩, va_recv hKc hPc (ci := 3) (q0 := 0) rfl rfl, fun U hU hW => ⟨rfl, by rw [hU], by rw [hU]; exact hPc, va_K.moved hW.alike hKc, hDc.weaken (fun _ _ _ _ => trivial)⟩⟩ rfl rfl hl.1 rfl (lv_room (Nat.le_of_ble_eq_true rfl)) dX3_takePerson_10 ⟨Nat.le_of_ble_eq_true rfl, Nat.le_of_ble_eq_true rfl⟩) hS (fun q _ h => hFc q h) hFc (fun r_17 u9 t9 H1 locs ht hvm hw hB hz1 hk1 hS => ?_)
    subst hw
    obtain ⟨v_18, v_19, b_r_17, hP1, hK1, hD1⟩ := hB
    rw [ht] at hP1
    have hK1 := va_K.moved hvm.symm hK1
    obtain ⟨hP, hD⟩ := va_join (wr := [(d_town, .inr (7, [.int d_town_days, .int d_town_post, .int d_town_law, .int d_town_seed, .int d_town_lines, .int d_town_people, .int d_town_letters, .int d_town_lawTold, .ref d_town_hours, .ref d_town_kind, .ref d_town_master, .ref d_town_from, .ref d_town_to, .ref d_town_on, .ref d_town_told, .ref d_town_after, .ref d_town_worth, .ref d_town_by]))]) (w1 := [(d, .inr (3, [.ref d_tape, .ref d_town, .int d_token, .int d_start, .int d_next, .int d_value, .int v_18, .int v_19]))]) hP hD [0] [1] rfl rfl (by decide) (by decide) hk1 hFc hP1 hD1
    clear hPc hDc hKc hFc hz1 hk1 hP1 hD1 hK1
    generalize H1 = H at hP hS ⊢
    have hP : va_P (dC, dI) vwCl [(d_town, .inr (7, [.int d_town_days, .int d_town_post, .int d_town_law, .int d_town_seed, .int d_town_lines, .int d_town_people, .int d_town_letters, .int d_town_lawTold, .ref d_town_hours, .ref d_town_kind, .ref d_town_master, .ref d_town_from, .ref d_town_to, .ref d_town_on, .ref d_town_told, .ref d_town_after, .ref d_town_worth, .ref d_town_by])), (d, .inr (3, [.ref d_tape, .ref d_town, .int d_token, .int d_start, .int d_next, .int d_value, .int v_18, .int v_19]))] H := hP
    have hD : va_D A [(d_town, .inr (7, [.int d_town_days, .int d_town_post, .int d_town_law, .int d_town_seed, .int d_town_lines, .int d_town_people, .int d_town_letters, .int d_town_lawTold, .ref d_town_hours, .ref d_town_kind, .ref d_town_master, .ref d_town_from, .ref d_town_to, .ref d_town_on, .ref d_town_told, .ref d_town_after, .ref d_town_worth, .ref d_town_by])), (d, .inr (3, [.ref d_tape, .ref d_town, .int d_token, .int d_start, .int d_next, .int d_value, .int v_18, .int v_19]))] := hD
    have bq_20 : (0) ≤ r_17.toInt ∧ r_17.toInt ≤ 1 := ⟨by omega, by omega⟩
    have hP9 := hP.sub (ws' := [(d, .inr (3, [.ref d_tape, .ref d_town, .int d_token, .int d_start, .int d_next, .int d_value, .int v_18, .int v_19])), (d_town, .inr (7, [.int d_town_days, .int d_town_post, .int d_town_law, .int d_town_seed, .int d_town_lines, .int d_town_people, .int d_town_letters, .int d_town_lawTold, .ref d_town_hours, .ref d_town_kind, .ref d_town_master, .ref d_town_from, .ref d_town_to, .ref d_town_on, .ref d_town_told, .ref d_town_after, .ref d_town_worth, .ref d_town_by]))]) [1, 0] rfl
    have hD9 := hD.sub (ws' := [(d, .inr (3, [.ref d_tape, .ref d_town, .int d_token, .int d_start, .int d_next, .int d_value, .int v_18, .int v_19])), (d_town, .inr (7, [.int d_town_days, .int d_town_post, .int d_town_law, .int d_town_seed, .int d_town_lines, .int d_town_people, .int d_town_letters, .int d_town_lawTold, .ref d_town_hours, .ref d_town_kind, .ref d_town_master, .ref d_town_from, .ref d_town_to, .ref d_town_on, .ref d_town_told, .ref d_town_after, .ref d_town_worth, .ref d_town_by]))]) [1, 0] (by decide) rfl
    have hK9 := hK.sub (tys' := []) [] rfl
    refine gQe eQ ?_
    exact W.zret (v := r_17) hx hb hr (q_nz (by omega) (by omega)) (fun t9 ht hW => ⟨⟨r_17, r_17, rfl, rfl, v_18, v_19, bq_20, (by omega), by rw [ht]; exact hP9, va_K.moved hW.alike hK9, hD9⟩, hS.F ht⟩) hS.2.2 dX3_takePerson_13
set_option maxHeartbeats 4000000 in
set_option maxRecDepth 100000 in
theorem d_kindTold (l : Launch) (dC : Nat → ClassId) (dI : Nat → Nat → Nat) (sz : Nat) (d : Nat) (d_tape : Nat) (d_town : Nat) (d_token : Int32) (d_start : Int32) (d_next : Int32) (d_value : Int32) (d_fault : Int32) (d_faultPlace : Int32) (d_tape_bytes : Nat) (d_tape_length : Int32) (kd_tape_bytes : ClassId) (fd_tape_bytes : Nat → Int32) (adK : Nat → Nat) (adV : Nat → Nat) (b_d_value : (0) ≤ d_value.toInt ∧ d_value.toInt ≤ 1000000) (b_d_tape_length : (0) ≤ d_tape_length.toInt ∧ d_tape_length.toInt ≤ 2400) : Met l yX3_kindTold (.code yX3_kindTold cX3_kindTold 1 (some .int) :: ALLW) ({ frames := 5, cells := 0, slots := 0, locals := 107 }) (va_Pc [.ref d] (fun U => U.heap.size = sz ∧ va_P (dC, dI) vwCl [(d, .inr (3, [.ref d_tape, .ref d_town, .int d_token, .int d_start, .int d_next, .int d_value, .int d_fault, .int d_faultPlace])), (d_tape, .inr (6, [.ref d_tape_bytes, .int d_tape_length])), (d_tape_bytes, .inl (kd_tape_bytes, 2400, .inl fd_tape_bytes))] U.heap ∧ va_K (dC, dI) vwCl [(kd_tape_bytes, .byte)] U ∧ va_D (fun _ => True) [(d, .inr (3, [.ref d_tape, .ref d_town, .int d_token, .int d_start, .int d_next, .int d_value, .int d_fault, .int d_faultPlace])), (d_tape, .inr (6, [.ref d_tape_bytes, .int d_tape_length])), (d_tape_bytes, .inl (kd_tape_bytes, 2400, .inl fd_tape_bytes))] ∧ strs adK adV (va_A [(d, .inr (3, [.ref d_tape, .ref d_town, .int d_token, .int d_start, .int d_next, .int d_value, .int d_fault, .int d_faultPlace])), (d_tape, .inr (6, [.ref d_tape_bytes, .int d_tape_length])), (d_tape_bytes, .inl (kd_tape_bytes, 2400, .inl fd_tape_bytes))] sz) U)) (va_Qi (fun (r u : Int32) => r = u) (fun (u : Int32) (t9 : State) => ((-1) ≤ u.toInt ∧ u.toInt ≤ 4) ∧ va_P (dC, dI) vwCl [(d, .inr (3, [.ref d_tape, .ref d_town, .int d_token, .int d_start, .int d_next, .int d_value, .int d_fault, .int d_faultPlace])), (d_tape, .inr (6, [.ref d_tape_bytes, .int d_tape_length])), (d_tape_bytes, .inl (kd_tape_bytes, 2400, .inl fd_tape_bytes))] t9.heap ∧ va_K (dC, dI) vwCl [] t9 ∧ va_D (va_A [(d, .inr (3, [.ref d_tape, .ref d_town, .int d_token, .int d_start, .int d_next, .int d_value, .int d_fault, .int d_faultPlace])), (d_tape, .inr (6, [.ref d_tape_bytes, .int d_tape_length])), (d_tape_bytes, .inl (kd_tape_bytes, 2400, .inl fd_tape_bytes))] sz) [(d, .inr (3, [.ref d_tape, .ref d_town, .int d_token, .int d_start, .int d_next, .int d_value, .int d_fault, .int d_faultPlace])), (d_tape, .inr (6, [.ref d_tape_bytes, .int d_tape_length])), (d_tape_bytes, .inl (kd_tape_bytes, 2400, .inl fd_tape_bytes))]) (va_A [(d, .inr (3, [.ref d_tape, .ref d_town, .int d_token, .int d_start, .int d_next, .int d_value, .int d_fault, .int d_faultPlace])), (d_tape, .inr (6, [.ref d_tape_bytes, .int d_tape_length])), (d_tape_bytes, .inl (kd_tape_bytes, 2400, .inl fd_tape_bytes))] sz)) 0 0 (va_A [(d, .inr (3, [.ref d_tape, .ref d_town, .int d_token, .int d_start, .int d_next, .int d_value, .int d_fault, .int d_faultPlace])), (d_tape, .inr (6, [.ref d_tape_bytes, .int d_tape_length])), (d_tape_bytes, .inl (kd_tape_bytes, 2400, .inl fd_tape_bytes))] sz) := by
  refine Met.ofW (cc := cX3_kindTold) (maxL := 1) (ret := (some .int)) (by decide) rfl ?_
  intro pr_ en_ s me_ args below meth c s₁ B hml hv
  obtain ⟨rfl, hsz, hP, hK, hD0, hE⟩ := hv
  have hx := B.exec
  have hb := B.bytes
  have hr := B.returns
  have hts0 := atoms_spec (ws := (.code yX3_kindTold cX3_kindTold 1 (some .int) :: ALLW)) B.pre
  have hts := fun (w : Cond) (h : w ∈ ALLW) => hts0 w (List.mem_cons_of_mem _ h)
  have hown : s.vm.findClass RX3 = some me_.cls := findClass_of_methodNamed B.named
  have hlocks := B.notSynchronized
  subst hsz
  have hD := hD0.self (sz := s.heap.size)
  generalize hAe : va_A [(d, .inr (3, [.ref d_tape, .ref d_town, .int d_token, .int d_start, .int d_next, .int d_value, .int d_fault, .int d_faultPlace])), (d_tape, .inr (6, [.ref d_tape_bytes, .int d_tape_length])), (d_tape_bytes, .inl (kd_tape_bytes, 2400, .inl fd_tape_bytes))] s.heap.size = A at hD hE ⊢
  have hA : ∀ q : Nat, s.heap.size ≤ q → A q := fun q h => by rw [← hAe]; exact Or.inr h
  have hS : va_S A s.heap s.heap [] := va_S.rf
  have hP : va_P (dC, dI) vwCl [(d, .inr (3, [.ref d_tape, .ref d_town, .int d_token, .int d_start, .int d_next, .int d_value, .int d_fault, .int d_faultPlace])), (d_tape, .inr (6, [.ref d_tape_bytes, .int d_tape_length])), (d_tape_bytes, .inl (kd_tape_bytes, 2400, .inl fd_tape_bytes))] s.heap := hP
  have hl := lv_entry ([.ref d]) (n := 1) (Nat.le_of_ble_eq_true rfl)
  rw [lg_entry_eq]
  generalize (lg_sl ([.ref d]) ++ List.replicate (1 - (lg_sl ([.ref d])).length) Slot.unset).toArray = ls at hl ⊢
  have hl : lv_has ls 1 [(0, .ref d)] := hl
  refine gQ (fun Q eQ => ?_)
  refine lv_aload_n hx hb dX3_kindTold_0 rfl (lv_at hl 0 rfl) ?_
  refine va_ldcS hx hb hown (show vk_R RX3 119 "full" (adK 5) s from hE.2.2.2 5 (by decide)) dX3_kindTold_1 ?_
  have hPc := hP.sub (ws' := [(d, .inr (3, [.ref d_tape, .ref d_town, .int d_token, .int d_start, .int d_next, .int d_value, .int d_fault, .int d_faultPlace])), (d_tape, .inr (6, [.ref d_tape_bytes, .int d_tape_length])), (d_tape_bytes, .inl (kd_tape_bytes, 2400, .inl fd_tape_bytes))]) [0, 1, 2] rfl
  have hDc := hD.sub (ws' := [(d, .inr (3, [.ref d_tape, .ref d_town, .int d_token, .int d_start, .int d_next, .int d_value, .int d_fault, .int d_faultPlace])), (d_tape, .inr (6, [.ref d_tape_bytes, .int d_tape_length])), (d_tape_bytes, .inl (kd_tape_bytes, 2400, .inl fd_tape_bytes))]) [0, 1, 2] (by decide) rfl
  have hKc := hK.sub (tys' := [(kd_tape_bytes, .byte)]) [0] rfl
  have hFc := va_free (wc := [(d, .inr (3, [.ref d_tape, .ref d_town, .int d_token, .int d_start, .int d_next, .int d_value, .int d_fault, .int d_faultPlace])), (d_tape, .inr (6, [.ref d_tape_bytes, .int d_tape_length])), (d_tape_bytes, .inl (kd_tape_bytes, 2400, .inl fd_tape_bytes))]) hD hS hA [0, 1, 2] rfl
  refine va_calli (va_runV (As := [.ref (adK 5)]) (rest := []) ⟨hx, hb, hml, hown, hts⟩ (d_isWord l dC dI s.heap.size d adK 5 d_tape d_town d_token d_start d_next d_value d_fault d_faultPlace d_tape_bytes d_tape_length kd_tape_bytes fd_tape_bytes adV b_d_value b_d_tape_length (by decide)) (cwV 1 hts (goodV w_278 w_279 w_280 w_19 w_281) rfl rfl rfl hdV_X3_isWord ⟨Nat.le_of_ble_eq_true rfl, Nat.le_of_ble_eq_true rfl⟩) ⟨fun a U g mk q => by obtain ⟨q0, q1, qP, qK, qD, qE⟩ := q; exact ⟨q0, q1, qP, va_K.moved (u := U) (U := U.calling g mk a) (Vm.Alike.refl U.vm) qK, qD, strs.same rfl rfl qE⟩, va_recv hKc hPc (ci := 3) (q0 := 0) rfl rfl, fun U hU hW => ⟨rfl, by rw [hU], by rw [hU]; exact hPc, va_K.moved hW.alike hKc, hDc.weaken (fun _ _ _ _ => trivial), strs.call hE hS hFc hU hW⟩⟩ rfl rfl hl.1 rfl (lv_room (Nat.le_of_ble_eq_true rfl)) dX3_kindTold_3 ⟨Nat.le_of_ble_eq_true rfl, Nat.le_of_ble_eq_true rfl⟩) hS (fun q _ h => hFc q h) hFc (fun r_1 u9 t9 H1 locs ht hvm hw hB hz1 hk1 hS => ?_)
  subst hw
  obtain ⟨b_r_1, hP1, hK1, hD1⟩ := hB
  rw [ht] at hP1
  have hK1 := va_K.moved hvm.symm hK1
  obtain ⟨hP, hD⟩ := va_join (wr := []) (w1 := [(d, .inr (3, [.ref d_tape, .ref d_town, .int d_token, .int d_start, .int d_next, .int d_value, .int d_fault, .int d_faultPlace])), (d_tape, .inr (6, [.ref d_tape_bytes, .int d_tape_length])), (d_tape_bytes, .inl (kd_tape_bytes, 2400, .inl fd_tape_bytes))]) hP hD [0, 1, 2] [] rfl rfl (by decide) (by decide) hk1 hFc hP1 hD1
  clear hPc hDc hKc hFc hz1 hk1 hP1 hD1 hK1
  generalize H1 = H at hP hS ⊢
  have hP : va_P (dC, dI) vwCl [(d, .inr (3, [.ref d_tape, .ref d_town, .int d_token, .int d_start, .int d_next, .int d_value, .int d_fault, .int d_faultPlace])), (d_tape, .inr (6, [.ref d_tape_bytes, .int d_tape_length])), (d_tape_bytes, .inl (kd_tape_bytes, 2400, .inl fd_tape_bytes))] H := hP
  have hD : va_D A [(d, .inr (3, [.ref d_tape, .ref d_town, .int d_token, .int d_start, .int d_next, .int d_value, .int d_fault, .int d_faultPlace])), (d_tape, .inr (6, [.ref d_tape_bytes, .int d_tape_length])), (d_tape_bytes, .inl (kd_tape_bytes, 2400, .inl fd_tape_bytes))] := hD
  refine lv_if_eq (tgt := 11) hx hb dX3_kindTold_6 (by decide) (fun c_2 => ?_) (fun c_2 => ?_)
  · have ec_2 := q_eq (a := r_1.toInt) (b := 0) rfl (by decide) c_2
    refine lv_aload_n hx hb dX3_kindTold_11 rfl (lv_at hl 0 rfl) ?_
    refine va_ldcS hx hb hown (show vk_R RX3 121 "short" (adK 6) s from hE.2.2.2 6 (by decide)) dX3_kindTold_12 ?_
    have hPc := hP.sub (ws' := [(d, .inr (3, [.ref d_tape, .ref d_town, .int d_token, .int d_start, .int d_next, .int d_value, .int d_fault, .int d_faultPlace])), (d_tape, .inr (6, [.ref d_tape_bytes, .int d_tape_length])), (d_tape_bytes, .inl (kd_tape_bytes, 2400, .inl fd_tape_bytes))]) [0, 1, 2] rfl
    have hDc := hD.sub (ws' := [(d, .inr (3, [.ref d_tape, .ref d_town, .int d_token, .int d_start, .int d_next, .int d_value, .int d_fault, .int d_faultPlace])), (d_tape, .inr (6, [.ref d_tape_bytes, .int d_tape_length])), (d_tape_bytes, .inl (kd_tape_bytes, 2400, .inl fd_tape_bytes))]) [0, 1, 2] (by decide) rfl
    have hKc := hK.sub (tys' := [(kd_tape_bytes, .byte)]) [0] rfl
    have hFc := va_free (wc := [(d, .inr (3, [.ref d_tape, .ref d_town, .int d_token, .int d_start, .int d_next, .int d_value, .int d_fault, .int d_faultPlace])), (d_tape, .inr (6, [.ref d_tape_bytes, .int d_tape_length])), (d_tape_bytes, .inl (kd_tape_bytes, 2400, .inl fd_tape_bytes))]) hD hS hA [0, 1, 2] rfl
    refine va_calli (va_runV (As := [.ref (adK 6)]) (rest := []) ⟨hx, hb, hml, hown, hts⟩ (d_isWord l dC dI H.size d adK 6 d_tape d_town d_token d_start d_next d_value d_fault d_faultPlace d_tape_bytes d_tape_length kd_tape_bytes fd_tape_bytes adV b_d_value b_d_tape_length (by decide)) (cwV 1 hts (goodV w_278 w_279 w_280 w_19 w_281) rfl rfl rfl hdV_X3_isWord ⟨Nat.le_of_ble_eq_true rfl, Nat.le_of_ble_eq_true rfl⟩) ⟨fun a U g mk q => by obtain ⟨q0, q1, qP, qK, qD, qE⟩ := q; exact ⟨q0, q1, qP, va_K.moved (u := U) (U := U.calling g mk a) (Vm.Alike.refl U.vm) qK, qD, strs.same rfl rfl qE⟩, va_recv hKc hPc (ci := 3) (q0 := 0) rfl rfl, fun U hU hW => ⟨rfl, by rw [hU], by rw [hU]; exact hPc, va_K.moved hW.alike hKc, hDc.weaken (fun _ _ _ _ => trivial), strs.call hE hS hFc hU hW⟩⟩ rfl rfl hl.1 rfl (lv_room (Nat.le_of_ble_eq_true rfl)) dX3_kindTold_14 ⟨Nat.le_of_ble_eq_true rfl, Nat.le_of_ble_eq_true rfl⟩) hS (fun q _ h => hFc q h) hFc (fun r_3 u9 t9 H1 locs ht hvm hw hB hz1 hk1 hS => ?_)
    subst hw
    obtain ⟨b_r_3, hP1, hK1, hD1⟩ := hB
    rw [ht] at hP1
    have hK1 := va_K.moved hvm.symm hK1
    obtain ⟨hP, hD⟩ := va_join (wr := []) (w1 := [(d, .inr (3, [.ref d_tape, .ref d_town, .int d_token, .int d_start, .int d_next, .int d_value, .int d_fault, .int d_faultPlace])), (d_tape, .inr (6, [.ref d_tape_bytes, .int d_tape_length])), (d_tape_bytes, .inl (kd_tape_bytes, 2400, .inl fd_tape_bytes))]) hP hD [0, 1, 2] [] rfl rfl (by decide) (by decide) hk1 hFc hP1 hD1
    clear hPc hDc hKc hFc hz1 hk1 hP1 hD1 hK1
    generalize H1 = H at hP hS ⊢
    have hP : va_P (dC, dI) vwCl [(d, .inr (3, [.ref d_tape, .ref d_town, .int d_token, .int d_start, .int d_next, .int d_value, .int d_fault, .int d_faultPlace])), (d_tape, .inr (6, [.ref d_tape_bytes, .int d_tape_length])), (d_tape_bytes, .inl (kd_tape_bytes, 2400, .inl fd_tape_bytes))] H := hP
    have hD : va_D A [(d, .inr (3, [.ref d_tape, .ref d_town, .int d_token, .int d_start, .int d_next, .int d_value, .int d_fault, .int d_faultPlace])), (d_tape, .inr (6, [.ref d_tape_bytes, .int d_tape_length])), (d_tape_bytes, .inl (kd_tape_bytes, 2400, .inl fd_tape_bytes))] := hD
    refine lv_if_eq (tgt := 22) hx hb dX3_kindTold_17 (by decide) (fun c_4 => ?_) (fun c_4 => ?_)
    · have ec_4 := q_eq (a := r_3.toInt) (b := 0) rfl (by decide) c_4
      refine lv_aload_n hx hb dX3_kindTold_22 rfl (lv_at hl 0 rfl) ?_
      refine va_ldcS hx hb hown (show vk_R RX3 123 "sunday" (adK 7) s from hE.2.2.2 7 (by decide)) dX3_kindTold_23 ?_
      have hPc := hP.sub (ws' := [(d, .inr (3, [.ref d_tape, .ref d_town, .int d_token, .int d_start, .int d_next, .int d_value, .int d_fault, .int d_faultPlace])), (d_tape, .inr (6, [.ref d_tape_bytes, .int d_tape_length])), (d_tape_bytes, .inl (kd_tape_bytes, 2400, .inl fd_tape_bytes))]) [0, 1, 2] rfl
      have hDc := hD.sub (ws' := [(d, .inr (3, [.ref d_tape, .ref d_town, .int d_token, .int d_start, .int d_next, .int d_value, .int d_fault, .int d_faultPlace])), (d_tape, .inr (6, [.ref d_tape_bytes, .int d_tape_length])), (d_tape_bytes, .inl (kd_tape_bytes, 2400, .inl fd_tape_bytes))]) [0, 1, 2] (by decide) rfl
      have hKc := hK.sub (tys' := [(kd_tape_bytes, .byte)]) [0] rfl
      have hFc := va_free (wc := [(d, .inr (3, [.ref d_tape, .ref d_town, .int d_token, .int d_start, .int d_next, .int d_value, .int d_fault, .int d_faultPlace])), (d_tape, .inr (6, [.ref d_tape_bytes, .int d_tape_length])), (d_tape_bytes, .inl (kd_tape_bytes, 2400, .inl fd_tape_bytes))]) hD hS hA [0, 1, 2] rfl
      refine va_calli (va_runV (As := [.ref (adK 7)]) (rest := []) ⟨hx, hb, hml, hown, hts⟩ (d_isWord l dC dI H.size d adK 7 d_tape d_town d_token d_start d_next d_value d_fault d_faultPlace d_tape_bytes d_tape_length kd_tape_bytes fd_tape_bytes adV b_d_value b_d_tape_length (by decide)) (cwV 1 hts (goodV w_278 w_279 w_280 w_19 w_281) rfl rfl rfl hdV_X3_isWord ⟨Nat.le_of_ble_eq_true rfl, Nat.le_of_ble_eq_true rfl⟩) ⟨fun a U g mk q => by obtain ⟨q0, q1, qP, qK, qD, qE⟩ := q; exact ⟨q0, q1, qP, va_K.moved (u := U) (U := U.calling g mk a) (Vm.Alike.refl U.vm) qK, qD, strs.same rfl rfl qE⟩, va_recv hKc hPc (ci := 3) (q0 := 0) rfl rfl, fun U hU hW => ⟨rfl, by rw [hU], by rw [hU]; exact hPc, va_K.moved hW.alike hKc, hDc.weaken (fun _ _ _ _ => trivial), strs.call hE hS hFc hU hW⟩⟩ rfl rfl hl.1 rfl (lv_room (Nat.le_of_ble_eq_true rfl)) dX3_kindTold_25 ⟨Nat.le_of_ble_eq_true rfl, Nat.le_of_ble_eq_true rfl⟩) hS (fun q _ h => hFc q h) hFc (fun r_5 u9 t9 H1 locs ht hvm hw hB hz1 hk1 hS => ?_)
      subst hw
      obtain ⟨b_r_5, hP1, hK1, hD1⟩ := hB
      rw [ht] at hP1
      have hK1 := va_K.moved hvm.symm hK1
      obtain ⟨hP, hD⟩ := va_join (wr := []) (w1 := [(d, .inr (3, [.ref d_tape, .ref d_town, .int d_token, .int d_start, .int d_next, .int d_value, .int d_fault, .int d_faultPlace])), (d_tape, .inr (6, [.ref d_tape_bytes, .int d_tape_length])), (d_tape_bytes, .inl (kd_tape_bytes, 2400, .inl fd_tape_bytes))]) hP hD [0, 1, 2] [] rfl rfl (by decide) (by decide) hk1 hFc hP1 hD1
      clear hPc hDc hKc hFc hz1 hk1 hP1 hD1 hK1
      generalize H1 = H at hP hS ⊢
      have hP : va_P (dC, dI) vwCl [(d, .inr (3, [.ref d_tape, .ref d_town, .int d_token, .int d_start, .int d_next, .int d_value, .int d_fault, .int d_faultPlace])), (d_tape, .inr (6, [.ref d_tape_bytes, .int d_tape_length])), (d_tape_bytes, .inl (kd_tape_bytes, 2400, .inl fd_tape_bytes))] H := hP
      have hD : va_D A [(d, .inr (3, [.ref d_tape, .ref d_town, .int d_token, .int d_start, .int d_next, .int d_value, .int d_fault, .int d_faultPlace])), (d_tape, .inr (6, [.ref d_tape_bytes, .int d_tape_length])), (d_tape_bytes, .inl (kd_tape_bytes, 2400, .inl fd_tape_bytes))] := hD
      refine lv_if_eq (tgt := 33) hx hb dX3_kindTold_28 (by decide) (fun c_6 => ?_) (fun c_6 => ?_)
      · have ec_6 := q_eq (a := r_5.toInt) (b := 0) rfl (by decide) c_6
        refine lv_aload_n hx hb dX3_kindTold_33 rfl (lv_at hl 0 rfl) ?_
        refine va_ldcS hx hb hown (show vk_R RX3 125 "worrier" (adK 8) s from hE.2.2.2 8 (by decide)) dX3_kindTold_34 ?_
        have hPc := hP.sub (ws' := [(d, .inr (3, [.ref d_tape, .ref d_town, .int d_token, .int d_start, .int d_next, .int d_value, .int d_fault, .int d_faultPlace])), (d_tape, .inr (6, [.ref d_tape_bytes, .int d_tape_length])), (d_tape_bytes, .inl (kd_tape_bytes, 2400, .inl fd_tape_bytes))]) [0, 1, 2] rfl
        have hDc := hD.sub (ws' := [(d, .inr (3, [.ref d_tape, .ref d_town, .int d_token, .int d_start, .int d_next, .int d_value, .int d_fault, .int d_faultPlace])), (d_tape, .inr (6, [.ref d_tape_bytes, .int d_tape_length])), (d_tape_bytes, .inl (kd_tape_bytes, 2400, .inl fd_tape_bytes))]) [0, 1, 2] (by decide) rfl
        have hKc := hK.sub (tys' := [(kd_tape_bytes, .byte)]) [0] rfl
        have hFc := va_free (wc := [(d, .inr (3, [.ref d_tape, .ref d_town, .int d_token, .int d_start, .int d_next, .int d_value, .int d_fault, .int d_faultPlace])), (d_tape, .inr (6, [.ref d_tape_bytes, .int d_tape_length])), (d_tape_bytes, .inl (kd_tape_bytes, 2400, .inl fd_tape_bytes))]) hD hS hA [0, 1, 2] rfl
        refine va_calli (va_runV (As := [.ref (adK 8)]) (rest := []) ⟨hx, hb, hml, hown, hts⟩ (d_isWord l dC dI H.size d adK 8 d_tape d_town d_token d_start d_next d_value d_fault d_faultPlace d_tape_bytes d_tape_length kd_tape_bytes fd_tape_bytes adV b_d_value b_d_tape_length (by decide)) (cwV 1 hts (goodV w_278 w_279 w_280 w_19 w_281) rfl rfl rfl hdV_X3_isWord ⟨Nat.le_of_ble_eq_true rfl, Nat.le_of_ble_eq_true rfl⟩) ⟨fun a U g mk q => by obtain ⟨q0, q1, qP, qK, qD, qE⟩ := q; exact ⟨q0, q1, qP, va_K.moved (u := U) (U := U.calling g mk a) (Vm.Alike.refl U.vm) qK, qD, strs.same rfl rfl qE⟩, va_recv hKc hPc (ci := 3) (q0 := 0) rfl rfl, fun U hU hW => ⟨rfl, by rw [hU], by rw [hU]; exact hPc, va_K.moved hW.alike hKc, hDc.weaken (fun _ _ _ _ => trivial), strs.call hE hS hFc hU hW⟩⟩ rfl rfl hl.1 rfl (lv_room (Nat.le_of_ble_eq_true rfl)) dX3_kindTold_36 ⟨Nat.le_of_ble_eq_true rfl, Nat.le_of_ble_eq_true rfl⟩) hS (fun q _ h => hFc q h) hFc (fun r_7 u9 t9 H1 locs ht hvm hw hB hz1 hk1 hS => ?_)
        subst hw
        obtain ⟨b_r_7, hP1, hK1, hD1⟩ := hB
        rw [ht] at hP1
        have hK1 := va_K.moved hvm.symm hK1
        obtain ⟨hP, hD⟩ := va_join (wr := []) (w1 := [(d, .inr (3, [.ref d_tape, .ref d_town, .int d_token, .int d_start, .int d_next, .int d_value, .int d_fault, .int d_faultPlace])), (d_tape, .inr (6, [.ref d_tape_bytes, .int d_tape_length])), (d_tape_bytes, .inl (kd_tape_bytes, 2400, .inl fd_tape_bytes))]) hP hD [0, 1, 2] [] rfl rfl (by decide) (by decide) hk1 hFc hP1 hD1
        clear hPc hDc hKc hFc hz1 hk1 hP1 hD1 hK1
        generalize H1 = H at hP hS ⊢
        have hP : va_P (dC, dI) vwCl [(d, .inr (3, [.ref d_tape, .ref d_town, .int d_token, .int d_start, .int d_next, .int d_value, .int d_fault, .int d_faultPlace])), (d_tape, .inr (6, [.ref d_tape_bytes, .int d_tape_length])), (d_tape_bytes, .inl (kd_tape_bytes, 2400, .inl fd_tape_bytes))] H := hP
        have hD : va_D A [(d, .inr (3, [.ref d_tape, .ref d_town, .int d_token, .int d_start, .int d_next, .int d_value, .int d_fault, .int d_faultPlace])), (d_tape, .inr (6, [.ref d_tape_bytes, .int d_tape_length])), (d_tape_bytes, .inl (kd_tape_bytes, 2400, .inl fd_tape_bytes))] := hD
        refine lv_if_eq (tgt := 44) hx hb dX3_kindTold_39 (by decide) (fun c_8 => ?_) (fun c_8 => ?_)
        · have ec_8 := q_eq (a := r_7.toInt) (b := 0) rfl (by decide) c_8
          refine lv_aload_n hx hb dX3_kindTold_44 rfl (lv_at hl 0 rfl) ?_
          refine va_ldcS hx hb hown (show vk_R RX3 127 "clerk" (adK 9) s from hE.2.2.2 9 (by decide)) dX3_kindTold_45 ?_
          have hPc := hP.sub (ws' := [(d, .inr (3, [.ref d_tape, .ref d_town, .int d_token, .int d_start, .int d_next, .int d_value, .int d_fault, .int d_faultPlace])), (d_tape, .inr (6, [.ref d_tape_bytes, .int d_tape_length])), (d_tape_bytes, .inl (kd_tape_bytes, 2400, .inl fd_tape_bytes))]) [0, 1, 2] rfl
          have hDc := hD.sub (ws' := [(d, .inr (3, [.ref d_tape, .ref d_town, .int d_token, .int d_start, .int d_next, .int d_value, .int d_fault, .int d_faultPlace])), (d_tape, .inr (6, [.ref d_tape_bytes, .int d_tape_length])), (d_tape_bytes, .inl (kd_tape_bytes, 2400, .inl fd_tape_bytes))]) [0, 1, 2] (by decide) rfl
          have hKc := hK.sub (tys' := [(kd_tape_bytes, .byte)]) [0] rfl
          have hFc := va_free (wc := [(d, .inr (3, [.ref d_tape, .ref d_town, .int d_token, .int d_start, .int d_next, .int d_value, .int d_fault, .int d_faultPlace])), (d_tape, .inr (6, [.ref d_tape_bytes, .int d_tape_length])), (d_tape_bytes, .inl (kd_tape_bytes, 2400, .inl fd_tape_bytes))]) hD hS hA [0, 1, 2] rfl
          refine va_calli (va_runV (As := [.ref (adK 9)]) (rest := []) ⟨hx, hb, hml, hown, hts⟩ (d_isWord l dC dI H.size d adK 9 d_tape d_town d_token d_start d_next d_value d_fault d_faultPlace d_tape_bytes d_tape_length kd_tape_bytes fd_tape_bytes adV b_d_value b_d_tape_length (by decide)) (cwV 1 hts (goodV w_278 w_279 w_280 w_19 w_281) rfl rfl rfl hdV_X3_isWord ⟨Nat.le_of_ble_eq_true rfl, Nat.le_of_ble_eq_true rfl⟩) ⟨fun a U g mk q => by obtain ⟨q0, q1, qP, qK, qD, qE⟩ := q; exact ⟨q0, q1, qP, va_K.moved (u := U) (U := U.calling g mk a) (Vm.Alike.refl U.vm) qK, qD, strs.same rfl rfl qE⟩, va_recv hKc hPc (ci := 3) (q0 := 0) rfl rfl, fun U hU hW => ⟨rfl, by rw [hU], by rw [hU]; exact hPc, va_K.moved hW.alike hKc, hDc.weaken (fun _ _ _ _ => trivial), strs.call hE hS hFc hU hW⟩⟩ rfl rfl hl.1 rfl (lv_room (Nat.le_of_ble_eq_true rfl)) dX3_kindTold_47 ⟨Nat.le_of_ble_eq_true rfl, Nat.le_of_ble_eq_true rfl⟩) hS (fun q _ h => hFc q h) hFc (fun r_9 u9 t9 H1 locs ht hvm hw hB hz1 hk1 hS => ?_)
          subst hw
          obtain ⟨b_r_9, hP1, hK1, hD1⟩ := hB
          rw [ht] at hP1
          have hK1 := va_K.moved hvm.symm hK1
          obtain ⟨hP, hD⟩ := va_join (wr := []) (w1 := [(d, .inr (3, [.ref d_tape, .ref d_town, .int d_token, .int d_start, .int d_next, .int d_value, .int d_fault, .int d_faultPlace])), (d_tape, .inr (6, [.ref d_tape_bytes, .int d_tape_length])), (d_tape_bytes, .inl (kd_tape_bytes, 2400, .inl fd_tape_bytes))]) hP hD [0, 1, 2] [] rfl rfl (by decide) (by decide) hk1 hFc hP1 hD1
          clear hPc hDc hKc hFc hz1 hk1 hP1 hD1 hK1
          generalize H1 = H at hP hS ⊢
          have hP : va_P (dC, dI) vwCl [(d, .inr (3, [.ref d_tape, .ref d_town, .int d_token, .int d_start, .int d_next, .int d_value, .int d_fault, .int d_faultPlace])), (d_tape, .inr (6, [.ref d_tape_bytes, .int d_tape_length])), (d_tape_bytes, .inl (kd_tape_bytes, 2400, .inl fd_tape_bytes))] H := hP
          have hD : va_D A [(d, .inr (3, [.ref d_tape, .ref d_town, .int d_token, .int d_start, .int d_next, .int d_value, .int d_fault, .int d_faultPlace])), (d_tape, .inr (6, [.ref d_tape_bytes, .int d_tape_length])), (d_tape_bytes, .inl (kd_tape_bytes, 2400, .inl fd_tape_bytes))] := hD
          refine lv_if_eq (tgt := 57) hx hb dX3_kindTold_50 (by decide) (fun c_10 => ?_) (fun c_10 => ?_)
          · have ec_10 := q_eq (a := r_9.toInt) (b := 0) rfl (by decide) c_10
            refine lv_iconst (v := (-1)) hx hb dX3_kindTold_57 (by decide) ?_
            have z_11 : ((-1) : Int32).toInt = -1 := by decide
            have hP9 := hP.sub (ws' := [(d, .inr (3, [.ref d_tape, .ref d_town, .int d_token, .int d_start, .int d_next, .int d_value, .int d_fault, .int d_faultPlace])), (d_tape, .inr (6, [.ref d_tape_bytes, .int d_tape_length])), (d_tape_bytes, .inl (kd_tape_bytes, 2400, .inl fd_tape_bytes))]) [0, 1, 2] rfl
            have hD9 := hD.sub (ws' := [(d, .inr (3, [.ref d_tape, .ref d_town, .int d_token, .int d_start, .int d_next, .int d_value, .int d_fault, .int d_faultPlace])), (d_tape, .inr (6, [.ref d_tape_bytes, .int d_tape_length])), (d_tape_bytes, .inl (kd_tape_bytes, 2400, .inl fd_tape_bytes))]) [0, 1, 2] (by decide) rfl
            have hK9 := hK.sub (tys' := []) [] rfl
            refine gQe eQ ?_
            exact W.iret (v := (-1)) hx hb hr (fun t9 ht hW => ⟨⟨(-1), (-1), rfl, rfl, ⟨by decide, by decide⟩, by rw [ht]; exact hP9, va_K.moved hW.alike hK9, hD9⟩, hS.F ht⟩) hS.2.2 dX3_kindTold_58
          · have ec_10 := q_neq (a := r_9.toInt) (b := 0) rfl (by decide) c_10
            refine lv_iconst (v := 4) hx hb dX3_kindTold_53 (by decide) ?_
            refine lv_goto (tgt := 58) hx hb dX3_kindTold_54 (by decide) ?_
            have z_12 : (4 : Int32).toInt = 4 := by decide
            have hP9 := hP.sub (ws' := [(d, .inr (3, [.ref d_tape, .ref d_town, .int d_token, .int d_start, .int d_next, .int d_value, .int d_fault, .int d_faultPlace])), (d_tape, .inr (6, [.ref d_tape_bytes, .int d_tape_length])), (d_tape_bytes, .inl (kd_tape_bytes, 2400, .inl fd_tape_bytes))]) [0, 1, 2] rfl
            have hD9 := hD.sub (ws' := [(d, .inr (3, [.ref d_tape, .ref d_town, .int d_token, .int d_start, .int d_next, .int d_value, .int d_fault, .int d_faultPlace])), (d_tape, .inr (6, [.ref d_tape_bytes, .int d_tape_length])), (d_tape_bytes, .inl (kd_tape_bytes, 2400, .inl fd_tape_bytes))]) [0, 1, 2] (by decide) rfl
            have hK9 := hK.sub (tys' := []) [] rfl
            refine gQe eQ ?_
            exact W.iret (v := 4) hx hb hr (fun t9 ht hW => ⟨⟨4, 4, rfl, rfl, ⟨by decide, by decide⟩, by rw [ht]; exact hP9, va_K.moved hW.alike hK9, hD9⟩, hS.F ht⟩) hS.2.2 dX3_kindTold_58
        · have ec_8 := q_neq (a := r_7.toInt) (b := 0) rfl (by decide) c_8
          refine lv_iconst (v := 3) hx hb dX3_kindTold_42 (by decide) ?_
          have z_13 : (3 : Int32).toInt = 3 := by decide
          have hP9 := hP.sub (ws' := [(d, .inr (3, [.ref d_tape, .ref d_town, .int d_token, .int d_start, .int d_next, .int d_value, .int d_fault, .int d_faultPlace])), (d_tape, .inr (6, [.ref d_tape_bytes, .int d_tape_length])), (d_tape_bytes, .inl (kd_tape_bytes, 2400, .inl fd_tape_bytes))]) [0, 1, 2] rfl
          have hD9 := hD.sub (ws' := [(d, .inr (3, [.ref d_tape, .ref d_town, .int d_token, .int d_start, .int d_next, .int d_value, .int d_fault, .int d_faultPlace])), (d_tape, .inr (6, [.ref d_tape_bytes, .int d_tape_length])), (d_tape_bytes, .inl (kd_tape_bytes, 2400, .inl fd_tape_bytes))]) [0, 1, 2] (by decide) rfl
          have hK9 := hK.sub (tys' := []) [] rfl
          refine gQe eQ ?_
          exact W.iret (v := 3) hx hb hr (fun t9 ht hW => ⟨⟨3, 3, rfl, rfl, ⟨by decide, by decide⟩, by rw [ht]; exact hP9, va_K.moved hW.alike hK9, hD9⟩, hS.F ht⟩) hS.2.2 dX3_kindTold_43
      · have ec_6 := q_neq (a := r_5.toInt) (b := 0) rfl (by decide) c_6
        refine lv_iconst (v := 2) hx hb dX3_kindTold_31 (by decide) ?_
        have z_14 : (2 : Int32).toInt = 2 := by decide
        have hP9 := hP.sub (ws' := [(d, .inr (3, [.ref d_tape, .ref d_town, .int d_token, .int d_start, .int d_next, .int d_value, .int d_fault, .int d_faultPlace])), (d_tape, .inr (6, [.ref d_tape_bytes, .int d_tape_length])), (d_tape_bytes, .inl (kd_tape_bytes, 2400, .inl fd_tape_bytes))]) [0, 1, 2] rfl
        have hD9 := hD.sub (ws' := [(d, .inr (3, [.ref d_tape, .ref d_town, .int d_token, .int d_start, .int d_next, .int d_value, .int d_fault, .int d_faultPlace])), (d_tape, .inr (6, [.ref d_tape_bytes, .int d_tape_length])), (d_tape_bytes, .inl (kd_tape_bytes, 2400, .inl fd_tape_bytes))]) [0, 1, 2] (by decide) rfl
        have hK9 := hK.sub (tys' := []) [] rfl
        refine gQe eQ ?_
        exact W.iret (v := 2) hx hb hr (fun t9 ht hW => ⟨⟨2, 2, rfl, rfl, ⟨by decide, by decide⟩, by rw [ht]; exact hP9, va_K.moved hW.alike hK9, hD9⟩, hS.F ht⟩) hS.2.2 dX3_kindTold_32
    · have ec_4 := q_neq (a := r_3.toInt) (b := 0) rfl (by decide) c_4
      refine lv_iconst (v := 1) hx hb dX3_kindTold_20 (by decide) ?_
      have z_15 : (1 : Int32).toInt = 1 := by decide
      have hP9 := hP.sub (ws' := [(d, .inr (3, [.ref d_tape, .ref d_town, .int d_token, .int d_start, .int d_next, .int d_value, .int d_fault, .int d_faultPlace])), (d_tape, .inr (6, [.ref d_tape_bytes, .int d_tape_length])), (d_tape_bytes, .inl (kd_tape_bytes, 2400, .inl fd_tape_bytes))]) [0, 1, 2] rfl
      have hD9 := hD.sub (ws' := [(d, .inr (3, [.ref d_tape, .ref d_town, .int d_token, .int d_start, .int d_next, .int d_value, .int d_fault, .int d_faultPlace])), (d_tape, .inr (6, [.ref d_tape_bytes, .int d_tape_length])), (d_tape_bytes, .inl (kd_tape_bytes, 2400, .inl fd_tape_bytes))]) [0, 1, 2] (by decide) rfl
      have hK9 := hK.sub (tys' := []) [] rfl
      refine gQe eQ ?_
      exact W.iret (v := 1) hx hb hr (fun t9 ht hW => ⟨⟨1, 1, rfl, rfl, ⟨by decide, by decide⟩, by rw [ht]; exact hP9, va_K.moved hW.alike hK9, hD9⟩, hS.F ht⟩) hS.2.2 dX3_kindTold_21
  · have ec_2 := q_neq (a := r_1.toInt) (b := 0) rfl (by decide) c_2
    refine lv_iconst (v := 0) hx hb dX3_kindTold_9 (by decide) ?_
    have z_16 : (0 : Int32).toInt = 0 := by decide
    have hP9 := hP.sub (ws' := [(d, .inr (3, [.ref d_tape, .ref d_town, .int d_token, .int d_start, .int d_next, .int d_value, .int d_fault, .int d_faultPlace])), (d_tape, .inr (6, [.ref d_tape_bytes, .int d_tape_length])), (d_tape_bytes, .inl (kd_tape_bytes, 2400, .inl fd_tape_bytes))]) [0, 1, 2] rfl
    have hD9 := hD.sub (ws' := [(d, .inr (3, [.ref d_tape, .ref d_town, .int d_token, .int d_start, .int d_next, .int d_value, .int d_fault, .int d_faultPlace])), (d_tape, .inr (6, [.ref d_tape_bytes, .int d_tape_length])), (d_tape_bytes, .inl (kd_tape_bytes, 2400, .inl fd_tape_bytes))]) [0, 1, 2] (by decide) rfl
    have hK9 := hK.sub (tys' := []) [] rfl
    refine gQe eQ ?_
    exact W.iret (v := 0) hx hb hr (fun t9 ht hW => ⟨⟨0, 0, rfl, rfl, ⟨by decide, by decide⟩, by rw [ht]; exact hP9, va_K.moved hW.alike hK9, hD9⟩, hS.F ht⟩) hS.2.2 dX3_kindTold_10
set_option maxHeartbeats 4000000 in
set_option maxRecDepth 100000 in
theorem d_lawNamed (l : Launch) (dC : Nat → ClassId) (dI : Nat → Nat → Nat) (sz : Nat) (d : Nat) (d_tape : Nat) (d_town : Nat) (d_token : Int32) (d_start : Int32) (d_next : Int32) (d_value : Int32) (d_fault : Int32) (d_faultPlace : Int32) (d_tape_bytes : Nat) (d_tape_length : Int32) (kd_tape_bytes : ClassId) (fd_tape_bytes : Nat → Int32) (adK : Nat → Nat) (adV : Nat → Nat) (b_d_value : (0) ≤ d_value.toInt ∧ d_value.toInt ≤ 1000000) (b_d_tape_length : (0) ≤ d_tape_length.toInt ∧ d_tape_length.toInt ≤ 2400) : Met l yX3_lawNamed (.code yX3_lawNamed cX3_lawNamed 1 (some .int) :: ALLW) ({ frames := 5, cells := 0, slots := 0, locals := 107 }) (va_Pc [.ref d] (fun U => U.heap.size = sz ∧ va_P (dC, dI) vwCl [(d, .inr (3, [.ref d_tape, .ref d_town, .int d_token, .int d_start, .int d_next, .int d_value, .int d_fault, .int d_faultPlace])), (d_tape, .inr (6, [.ref d_tape_bytes, .int d_tape_length])), (d_tape_bytes, .inl (kd_tape_bytes, 2400, .inl fd_tape_bytes))] U.heap ∧ va_K (dC, dI) vwCl [(kd_tape_bytes, .byte)] U ∧ va_D (fun _ => True) [(d, .inr (3, [.ref d_tape, .ref d_town, .int d_token, .int d_start, .int d_next, .int d_value, .int d_fault, .int d_faultPlace])), (d_tape, .inr (6, [.ref d_tape_bytes, .int d_tape_length])), (d_tape_bytes, .inl (kd_tape_bytes, 2400, .inl fd_tape_bytes))] ∧ strs adK adV (va_A [(d, .inr (3, [.ref d_tape, .ref d_town, .int d_token, .int d_start, .int d_next, .int d_value, .int d_fault, .int d_faultPlace])), (d_tape, .inr (6, [.ref d_tape_bytes, .int d_tape_length])), (d_tape_bytes, .inl (kd_tape_bytes, 2400, .inl fd_tape_bytes))] sz) U)) (va_Qi (fun (r u : Int32) => r = u) (fun (u : Int32) (t9 : State) => ((-1) ≤ u.toInt ∧ u.toInt ≤ 3) ∧ va_P (dC, dI) vwCl [(d, .inr (3, [.ref d_tape, .ref d_town, .int d_token, .int d_start, .int d_next, .int d_value, .int d_fault, .int d_faultPlace])), (d_tape, .inr (6, [.ref d_tape_bytes, .int d_tape_length])), (d_tape_bytes, .inl (kd_tape_bytes, 2400, .inl fd_tape_bytes))] t9.heap ∧ va_K (dC, dI) vwCl [] t9 ∧ va_D (va_A [(d, .inr (3, [.ref d_tape, .ref d_town, .int d_token, .int d_start, .int d_next, .int d_value, .int d_fault, .int d_faultPlace])), (d_tape, .inr (6, [.ref d_tape_bytes, .int d_tape_length])), (d_tape_bytes, .inl (kd_tape_bytes, 2400, .inl fd_tape_bytes))] sz) [(d, .inr (3, [.ref d_tape, .ref d_town, .int d_token, .int d_start, .int d_next, .int d_value, .int d_fault, .int d_faultPlace])), (d_tape, .inr (6, [.ref d_tape_bytes, .int d_tape_length])), (d_tape_bytes, .inl (kd_tape_bytes, 2400, .inl fd_tape_bytes))]) (va_A [(d, .inr (3, [.ref d_tape, .ref d_town, .int d_token, .int d_start, .int d_next, .int d_value, .int d_fault, .int d_faultPlace])), (d_tape, .inr (6, [.ref d_tape_bytes, .int d_tape_length])), (d_tape_bytes, .inl (kd_tape_bytes, 2400, .inl fd_tape_bytes))] sz)) 0 0 (va_A [(d, .inr (3, [.ref d_tape, .ref d_town, .int d_token, .int d_start, .int d_next, .int d_value, .int d_fault, .int d_faultPlace])), (d_tape, .inr (6, [.ref d_tape_bytes, .int d_tape_length])), (d_tape_bytes, .inl (kd_tape_bytes, 2400, .inl fd_tape_bytes))] sz) := by
  refine Met.ofW (cc := cX3_lawNamed) (maxL := 1) (ret := (some .int)) (by decide) rfl ?_
  intro pr_ en_ s me_ args below meth c s₁ B hml hv
  obtain ⟨rfl, hsz, hP, hK, hD0, hE⟩ := hv
  have hx := B.exec
  have hb := B.bytes
  have hr := B.returns
  have hts0 := atoms_spec (ws := (.code yX3_lawNamed cX3_lawNamed 1 (some .int) :: ALLW)) B.pre
  have hts := fun (w : Cond) (h : w ∈ ALLW) => hts0 w (List.mem_cons_of_mem _ h)
  have hown : s.vm.findClass RX3 = some me_.cls := findClass_of_methodNamed B.named
  have hlocks := B.notSynchronized
  subst hsz
  have hD := hD0.self (sz := s.heap.size)
  generalize hAe : va_A [(d, .inr (3, [.ref d_tape, .ref d_town, .int d_token, .int d_start, .int d_next, .int d_value, .int d_fault, .int d_faultPlace])), (d_tape, .inr (6, [.ref d_tape_bytes, .int d_tape_length])), (d_tape_bytes, .inl (kd_tape_bytes, 2400, .inl fd_tape_bytes))] s.heap.size = A at hD hE ⊢
  have hA : ∀ q : Nat, s.heap.size ≤ q → A q := fun q h => by rw [← hAe]; exact Or.inr h
  have hS : va_S A s.heap s.heap [] := va_S.rf
  have hP : va_P (dC, dI) vwCl [(d, .inr (3, [.ref d_tape, .ref d_town, .int d_token, .int d_start, .int d_next, .int d_value, .int d_fault, .int d_faultPlace])), (d_tape, .inr (6, [.ref d_tape_bytes, .int d_tape_length])), (d_tape_bytes, .inl (kd_tape_bytes, 2400, .inl fd_tape_bytes))] s.heap := hP
  have hl := lv_entry ([.ref d]) (n := 1) (Nat.le_of_ble_eq_true rfl)
  rw [lg_entry_eq]
  generalize (lg_sl ([.ref d]) ++ List.replicate (1 - (lg_sl ([.ref d])).length) Slot.unset).toArray = ls at hl ⊢
  have hl : lv_has ls 1 [(0, .ref d)] := hl
  refine gQ (fun Q eQ => ?_)
  refine lv_aload_n hx hb dX3_lawNamed_0 rfl (lv_at hl 0 rfl) ?_
  refine va_ldcS hx hb hown (show vk_R RX3 179 "oldest" (adK 18) s from hE.2.2.2 18 (by decide)) dX3_lawNamed_1 ?_
  have hPc := hP.sub (ws' := [(d, .inr (3, [.ref d_tape, .ref d_town, .int d_token, .int d_start, .int d_next, .int d_value, .int d_fault, .int d_faultPlace])), (d_tape, .inr (6, [.ref d_tape_bytes, .int d_tape_length])), (d_tape_bytes, .inl (kd_tape_bytes, 2400, .inl fd_tape_bytes))]) [0, 1, 2] rfl
  have hDc := hD.sub (ws' := [(d, .inr (3, [.ref d_tape, .ref d_town, .int d_token, .int d_start, .int d_next, .int d_value, .int d_fault, .int d_faultPlace])), (d_tape, .inr (6, [.ref d_tape_bytes, .int d_tape_length])), (d_tape_bytes, .inl (kd_tape_bytes, 2400, .inl fd_tape_bytes))]) [0, 1, 2] (by decide) rfl
  have hKc := hK.sub (tys' := [(kd_tape_bytes, .byte)]) [0] rfl
  have hFc := va_free (wc := [(d, .inr (3, [.ref d_tape, .ref d_town, .int d_token, .int d_start, .int d_next, .int d_value, .int d_fault, .int d_faultPlace])), (d_tape, .inr (6, [.ref d_tape_bytes, .int d_tape_length])), (d_tape_bytes, .inl (kd_tape_bytes, 2400, .inl fd_tape_bytes))]) hD hS hA [0, 1, 2] rfl
  refine va_calli (va_runV (As := [.ref (adK 18)]) (rest := []) ⟨hx, hb, hml, hown, hts⟩ (d_isWord l dC dI s.heap.size d adK 18 d_tape d_town d_token d_start d_next d_value d_fault d_faultPlace d_tape_bytes d_tape_length kd_tape_bytes fd_tape_bytes adV b_d_value b_d_tape_length (by decide)) (cwV 1 hts (goodV w_278 w_279 w_280 w_19 w_281) rfl rfl rfl hdV_X3_isWord ⟨Nat.le_of_ble_eq_true rfl, Nat.le_of_ble_eq_true rfl⟩) ⟨fun a U g mk q => by obtain ⟨q0, q1, qP, qK, qD, qE⟩ := q; exact ⟨q0, q1, qP, va_K.moved (u := U) (U := U.calling g mk a) (Vm.Alike.refl U.vm) qK, qD, strs.same rfl rfl qE⟩, va_recv hKc hPc (ci := 3) (q0 := 0) rfl rfl, fun U hU hW => ⟨rfl, by rw [hU], by rw [hU]; exact hPc, va_K.moved hW.alike hKc, hDc.weaken (fun _ _ _ _ => trivial), strs.call hE hS hFc hU hW⟩⟩ rfl rfl hl.1 rfl (lv_room (Nat.le_of_ble_eq_true rfl)) dX3_lawNamed_3 ⟨Nat.le_of_ble_eq_true rfl, Nat.le_of_ble_eq_true rfl⟩) hS (fun q _ h => hFc q h) hFc (fun r_1 u9 t9 H1 locs ht hvm hw hB hz1 hk1 hS => ?_)
  subst hw
  obtain ⟨b_r_1, hP1, hK1, hD1⟩ := hB
  rw [ht] at hP1
  have hK1 := va_K.moved hvm.symm hK1
  obtain ⟨hP, hD⟩ := va_join (wr := []) (w1 := [(d, .inr (3, [.ref d_tape, .ref d_town, .int d_token, .int d_start, .int d_next, .int d_value, .int d_fault, .int d_faultPlace])), (d_tape, .inr (6, [.ref d_tape_bytes, .int d_tape_length])), (d_tape_bytes, .inl (kd_tape_bytes, 2400, .inl fd_tape_bytes))]) hP hD [0, 1, 2] [] rfl rfl (by decide) (by decide) hk1 hFc hP1 hD1
  clear hPc hDc hKc hFc hz1 hk1 hP1 hD1 hK1
  generalize H1 = H at hP hS ⊢
  have hP : va_P (dC, dI) vwCl [(d, .inr (3, [.ref d_tape, .ref d_town, .int d_token, .int d_start, .int d_next, .int d_value, .int d_fault, .int d_faultPlace])), (d_tape, .inr (6, [.ref d_tape_bytes, .int d_tape_length])), (d_tape_bytes, .inl (kd_tape_bytes, 2400, .inl fd_tape_bytes))] H := hP
  have hD : va_D A [(d, .inr (3, [.ref d_tape, .ref d_town, .int d_token, .int d_start, .int d_next, .int d_value, .int d_fault, .int d_faultPlace])), (d_tape, .inr (6, [.ref d_tape_bytes, .int d_tape_length])), (d_tape_bytes, .inl (kd_tape_bytes, 2400, .inl fd_tape_bytes))] := hD
  refine lv_if_eq (tgt := 11) hx hb dX3_lawNamed_6 (by decide) (fun c_2 => ?_) (fun c_2 => ?_)
  · have ec_2 := q_eq (a := r_1.toInt) (b := 0) rfl (by decide) c_2
    refine lv_aload_n hx hb dX3_lawNamed_11 rfl (lv_at hl 0 rfl) ?_
    refine va_ldcS hx hb hown (show vk_R RX3 181 "newest" (adK 19) s from hE.2.2.2 19 (by decide)) dX3_lawNamed_12 ?_
    have hPc := hP.sub (ws' := [(d, .inr (3, [.ref d_tape, .ref d_town, .int d_token, .int d_start, .int d_next, .int d_value, .int d_fault, .int d_faultPlace])), (d_tape, .inr (6, [.ref d_tape_bytes, .int d_tape_length])), (d_tape_bytes, .inl (kd_tape_bytes, 2400, .inl fd_tape_bytes))]) [0, 1, 2] rfl
    have hDc := hD.sub (ws' := [(d, .inr (3, [.ref d_tape, .ref d_town, .int d_token, .int d_start, .int d_next, .int d_value, .int d_fault, .int d_faultPlace])), (d_tape, .inr (6, [.ref d_tape_bytes, .int d_tape_length])), (d_tape_bytes, .inl (kd_tape_bytes, 2400, .inl fd_tape_bytes))]) [0, 1, 2] (by decide) rfl
    have hKc := hK.sub (tys' := [(kd_tape_bytes, .byte)]) [0] rfl
    have hFc := va_free (wc := [(d, .inr (3, [.ref d_tape, .ref d_town, .int d_token, .int d_start, .int d_next, .int d_value, .int d_fault, .int d_faultPlace])), (d_tape, .inr (6, [.ref d_tape_bytes, .int d_tape_length])), (d_tape_bytes, .inl (kd_tape_bytes, 2400, .inl fd_tape_bytes))]) hD hS hA [0, 1, 2] rfl
    refine va_calli (va_runV (As := [.ref (adK 19)]) (rest := []) ⟨hx, hb, hml, hown, hts⟩ (d_isWord l dC dI H.size d adK 19 d_tape d_town d_token d_start d_next d_value d_fault d_faultPlace d_tape_bytes d_tape_length kd_tape_bytes fd_tape_bytes adV b_d_value b_d_tape_length (by decide)) (cwV 1 hts (goodV w_278 w_279 w_280 w_19 w_281) rfl rfl rfl hdV_X3_isWord ⟨Nat.le_of_ble_eq_true rfl, Nat.le_of_ble_eq_true rfl⟩) ⟨fun a U g mk q => by obtain ⟨q0, q1, qP, qK, qD, qE⟩ := q; exact ⟨q0, q1, qP, va_K.moved (u := U) (U := U.calling g mk a) (Vm.Alike.refl U.vm) qK, qD, strs.same rfl rfl qE⟩, va_recv hKc hPc (ci := 3) (q0 := 0) rfl rfl, fun U hU hW => ⟨rfl, by rw [hU], by rw [hU]; exact hPc, va_K.moved hW.alike hKc, hDc.weaken (fun _ _ _ _ => trivial), strs.call hE hS hFc hU hW⟩⟩ rfl rfl hl.1 rfl (lv_room (Nat.le_of_ble_eq_true rfl)) dX3_lawNamed_14 ⟨Nat.le_of_ble_eq_true rfl, Nat.le_of_ble_eq_true rfl⟩) hS (fun q _ h => hFc q h) hFc (fun r_3 u9 t9 H1 locs ht hvm hw hB hz1 hk1 hS => ?_)
    subst hw
    obtain ⟨b_r_3, hP1, hK1, hD1⟩ := hB
    rw [ht] at hP1
    have hK1 := va_K.moved hvm.symm hK1
    obtain ⟨hP, hD⟩ := va_join (wr := []) (w1 := [(d, .inr (3, [.ref d_tape, .ref d_town, .int d_token, .int d_start, .int d_next, .int d_value, .int d_fault, .int d_faultPlace])), (d_tape, .inr (6, [.ref d_tape_bytes, .int d_tape_length])), (d_tape_bytes, .inl (kd_tape_bytes, 2400, .inl fd_tape_bytes))]) hP hD [0, 1, 2] [] rfl rfl (by decide) (by decide) hk1 hFc hP1 hD1
    clear hPc hDc hKc hFc hz1 hk1 hP1 hD1 hK1
    generalize H1 = H at hP hS ⊢
    have hP : va_P (dC, dI) vwCl [(d, .inr (3, [.ref d_tape, .ref d_town, .int d_token, .int d_start, .int d_next, .int d_value, .int d_fault, .int d_faultPlace])), (d_tape, .inr (6, [.ref d_tape_bytes, .int d_tape_length])), (d_tape_bytes, .inl (kd_tape_bytes, 2400, .inl fd_tape_bytes))] H := hP
    have hD : va_D A [(d, .inr (3, [.ref d_tape, .ref d_town, .int d_token, .int d_start, .int d_next, .int d_value, .int d_fault, .int d_faultPlace])), (d_tape, .inr (6, [.ref d_tape_bytes, .int d_tape_length])), (d_tape_bytes, .inl (kd_tape_bytes, 2400, .inl fd_tape_bytes))] := hD
    refine lv_if_eq (tgt := 22) hx hb dX3_lawNamed_17 (by decide) (fun c_4 => ?_) (fun c_4 => ?_)
    · have ec_4 := q_eq (a := r_3.toInt) (b := 0) rfl (by decide) c_4
      refine lv_aload_n hx hb dX3_lawNamed_22 rfl (lv_at hl 0 rfl) ?_
      refine va_ldcS hx hb hown (show vk_R RX3 183 "dearest" (adK 20) s from hE.2.2.2 20 (by decide)) dX3_lawNamed_23 ?_
      have hPc := hP.sub (ws' := [(d, .inr (3, [.ref d_tape, .ref d_town, .int d_token, .int d_start, .int d_next, .int d_value, .int d_fault, .int d_faultPlace])), (d_tape, .inr (6, [.ref d_tape_bytes, .int d_tape_length])), (d_tape_bytes, .inl (kd_tape_bytes, 2400, .inl fd_tape_bytes))]) [0, 1, 2] rfl
      have hDc := hD.sub (ws' := [(d, .inr (3, [.ref d_tape, .ref d_town, .int d_token, .int d_start, .int d_next, .int d_value, .int d_fault, .int d_faultPlace])), (d_tape, .inr (6, [.ref d_tape_bytes, .int d_tape_length])), (d_tape_bytes, .inl (kd_tape_bytes, 2400, .inl fd_tape_bytes))]) [0, 1, 2] (by decide) rfl
      have hKc := hK.sub (tys' := [(kd_tape_bytes, .byte)]) [0] rfl
      have hFc := va_free (wc := [(d, .inr (3, [.ref d_tape, .ref d_town, .int d_token, .int d_start, .int d_next, .int d_value, .int d_fault, .int d_faultPlace])), (d_tape, .inr (6, [.ref d_tape_bytes, .int d_tape_length])), (d_tape_bytes, .inl (kd_tape_bytes, 2400, .inl fd_tape_bytes))]) hD hS hA [0, 1, 2] rfl
      refine va_calli (va_runV (As := [.ref (adK 20)]) (rest := []) ⟨hx, hb, hml, hown, hts⟩ (d_isWord l dC dI H.size d adK 20 d_tape d_town d_token d_start d_next d_value d_fault d_faultPlace d_tape_bytes d_tape_length kd_tape_bytes fd_tape_bytes adV b_d_value b_d_tape_length (by decide)) (cwV 1 hts (goodV w_278 w_279 w_280 w_19 w_281) rfl rfl rfl hdV_X3_isWord ⟨Nat.le_of_ble_eq_true rfl, Nat.le_of_ble_eq_true rfl⟩) ⟨fun a U g mk q => by obtain ⟨q0, q1, qP, qK, qD, qE⟩ := q; exact ⟨q0, q1, qP, va_K.moved (u := U) (U := U.calling g mk a) (Vm.Alike.refl U.vm) qK, qD, strs.same rfl rfl qE⟩, va_recv hKc hPc (ci := 3) (q0 := 0) rfl rfl, fun U hU hW => ⟨rfl, by rw [hU], by rw [hU]; exact hPc, va_K.moved hW.alike hKc, hDc.weaken (fun _ _ _ _ => trivial), strs.call hE hS hFc hU hW⟩⟩ rfl rfl hl.1 rfl (lv_room (Nat.le_of_ble_eq_true rfl)) dX3_lawNamed_25 ⟨Nat.le_of_ble_eq_true rfl, Nat.le_of_ble_eq_true rfl⟩) hS (fun q _ h => hFc q h) hFc (fun r_5 u9 t9 H1 locs ht hvm hw hB hz1 hk1 hS => ?_)
      subst hw
      obtain ⟨b_r_5, hP1, hK1, hD1⟩ := hB
      rw [ht] at hP1
      have hK1 := va_K.moved hvm.symm hK1
      obtain ⟨hP, hD⟩ := va_join (wr := []) (w1 := [(d, .inr (3, [.ref d_tape, .ref d_town, .int d_token, .int d_start, .int d_next, .int d_value, .int d_fault, .int d_faultPlace])), (d_tape, .inr (6, [.ref d_tape_bytes, .int d_tape_length])), (d_tape_bytes, .inl (kd_tape_bytes, 2400, .inl fd_tape_bytes))]) hP hD [0, 1, 2] [] rfl rfl (by decide) (by decide) hk1 hFc hP1 hD1
      clear hPc hDc hKc hFc hz1 hk1 hP1 hD1 hK1
      generalize H1 = H at hP hS ⊢
      have hP : va_P (dC, dI) vwCl [(d, .inr (3, [.ref d_tape, .ref d_town, .int d_token, .int d_start, .int d_next, .int d_value, .int d_fault, .int d_faultPlace])), (d_tape, .inr (6, [.ref d_tape_bytes, .int d_tape_length])), (d_tape_bytes, .inl (kd_tape_bytes, 2400, .inl fd_tape_bytes))] H := hP
      have hD : va_D A [(d, .inr (3, [.ref d_tape, .ref d_town, .int d_token, .int d_start, .int d_next, .int d_value, .int d_fault, .int d_faultPlace])), (d_tape, .inr (6, [.ref d_tape_bytes, .int d_tape_length])), (d_tape_bytes, .inl (kd_tape_bytes, 2400, .inl fd_tape_bytes))] := hD
      refine lv_if_eq (tgt := 33) hx hb dX3_lawNamed_28 (by decide) (fun c_6 => ?_) (fun c_6 => ?_)
      · have ec_6 := q_eq (a := r_5.toInt) (b := 0) rfl (by decide) c_6
        refine lv_aload_n hx hb dX3_lawNamed_33 rfl (lv_at hl 0 rfl) ?_
        refine va_ldcS hx hb hown (show vk_R RX3 185 "lot" (adK 21) s from hE.2.2.2 21 (by decide)) dX3_lawNamed_34 ?_
        have hPc := hP.sub (ws' := [(d, .inr (3, [.ref d_tape, .ref d_town, .int d_token, .int d_start, .int d_next, .int d_value, .int d_fault, .int d_faultPlace])), (d_tape, .inr (6, [.ref d_tape_bytes, .int d_tape_length])), (d_tape_bytes, .inl (kd_tape_bytes, 2400, .inl fd_tape_bytes))]) [0, 1, 2] rfl
        have hDc := hD.sub (ws' := [(d, .inr (3, [.ref d_tape, .ref d_town, .int d_token, .int d_start, .int d_next, .int d_value, .int d_fault, .int d_faultPlace])), (d_tape, .inr (6, [.ref d_tape_bytes, .int d_tape_length])), (d_tape_bytes, .inl (kd_tape_bytes, 2400, .inl fd_tape_bytes))]) [0, 1, 2] (by decide) rfl
        have hKc := hK.sub (tys' := [(kd_tape_bytes, .byte)]) [0] rfl
        have hFc := va_free (wc := [(d, .inr (3, [.ref d_tape, .ref d_town, .int d_token, .int d_start, .int d_next, .int d_value, .int d_fault, .int d_faultPlace])), (d_tape, .inr (6, [.ref d_tape_bytes, .int d_tape_length])), (d_tape_bytes, .inl (kd_tape_bytes, 2400, .inl fd_tape_bytes))]) hD hS hA [0, 1, 2] rfl
        refine va_calli (va_runV (As := [.ref (adK 21)]) (rest := []) ⟨hx, hb, hml, hown, hts⟩ (d_isWord l dC dI H.size d adK 21 d_tape d_town d_token d_start d_next d_value d_fault d_faultPlace d_tape_bytes d_tape_length kd_tape_bytes fd_tape_bytes adV b_d_value b_d_tape_length (by decide)) (cwV 1 hts (goodV w_278 w_279 w_280 w_19 w_281) rfl rfl rfl hdV_X3_isWord ⟨Nat.le_of_ble_eq_true rfl, Nat.le_of_ble_eq_true rfl⟩) ⟨fun a U g mk q => by obtain ⟨q0, q1, qP, qK, qD, qE⟩ := q; exact ⟨q0, q1, qP, va_K.moved (u := U) (U := U.calling g mk a) (Vm.Alike.refl U.vm) qK, qD, strs.same rfl rfl qE⟩, va_recv hKc hPc (ci := 3) (q0 := 0) rfl rfl, fun U hU hW => ⟨rfl, by rw [hU], by rw [hU]; exact hPc, va_K.moved hW.alike hKc, hDc.weaken (fun _ _ _ _ => trivial), strs.call hE hS hFc hU hW⟩⟩ rfl rfl hl.1 rfl (lv_room (Nat.le_of_ble_eq_true rfl)) dX3_lawNamed_36 ⟨Nat.le_of_ble_eq_true rfl, Nat.le_of_ble_eq_true rfl⟩) hS (fun q _ h => hFc q h) hFc (fun r_7 u9 t9 H1 locs ht hvm hw hB hz1 hk1 hS => ?_)
        subst hw
        obtain ⟨b_r_7, hP1, hK1, hD1⟩ := hB
        rw [ht] at hP1
        have hK1 := va_K.moved hvm.symm hK1
        obtain ⟨hP, hD⟩ := va_join (wr := []) (w1 := [(d, .inr (3, [.ref d_tape, .ref d_town, .int d_token, .int d_start, .int d_next, .int d_value, .int d_fault, .int d_faultPlace])), (d_tape, .inr (6, [.ref d_tape_bytes, .int d_tape_length])), (d_tape_bytes, .inl (kd_tape_bytes, 2400, .inl fd_tape_bytes))]) hP hD [0, 1, 2] [] rfl rfl (by decide) (by decide) hk1 hFc hP1 hD1
        clear hPc hDc hKc hFc hz1 hk1 hP1 hD1 hK1
        generalize H1 = H at hP hS ⊢
        have hP : va_P (dC, dI) vwCl [(d, .inr (3, [.ref d_tape, .ref d_town, .int d_token, .int d_start, .int d_next, .int d_value, .int d_fault, .int d_faultPlace])), (d_tape, .inr (6, [.ref d_tape_bytes, .int d_tape_length])), (d_tape_bytes, .inl (kd_tape_bytes, 2400, .inl fd_tape_bytes))] H := hP
        have hD : va_D A [(d, .inr (3, [.ref d_tape, .ref d_town, .int d_token, .int d_start, .int d_next, .int d_value, .int d_fault, .int d_faultPlace])), (d_tape, .inr (6, [.ref d_tape_bytes, .int d_tape_length])), (d_tape_bytes, .inl (kd_tape_bytes, 2400, .inl fd_tape_bytes))] := hD
        refine lv_if_eq (tgt := 46) hx hb dX3_lawNamed_39 (by decide) (fun c_8 => ?_) (fun c_8 => ?_)
        · have ec_8 := q_eq (a := r_7.toInt) (b := 0) rfl (by decide) c_8
          refine lv_iconst (v := (-1)) hx hb dX3_lawNamed_46 (by decide) ?_
          have z_9 : ((-1) : Int32).toInt = -1 := by decide
          have hP9 := hP.sub (ws' := [(d, .inr (3, [.ref d_tape, .ref d_town, .int d_token, .int d_start, .int d_next, .int d_value, .int d_fault, .int d_faultPlace])), (d_tape, .inr (6, [.ref d_tape_bytes, .int d_tape_length])), (d_tape_bytes, .inl (kd_tape_bytes, 2400, .inl fd_tape_bytes))]) [0, 1, 2] rfl
          have hD9 := hD.sub (ws' := [(d, .inr (3, [.ref d_tape, .ref d_town, .int d_token, .int d_start, .int d_next, .int d_value, .int d_fault, .int d_faultPlace])), (d_tape, .inr (6, [.ref d_tape_bytes, .int d_tape_length])), (d_tape_bytes, .inl (kd_tape_bytes, 2400, .inl fd_tape_bytes))]) [0, 1, 2] (by decide) rfl
          have hK9 := hK.sub (tys' := []) [] rfl
          refine gQe eQ ?_
          exact W.iret (v := (-1)) hx hb hr (fun t9 ht hW => ⟨⟨(-1), (-1), rfl, rfl, ⟨by decide, by decide⟩, by rw [ht]; exact hP9, va_K.moved hW.alike hK9, hD9⟩, hS.F ht⟩) hS.2.2 dX3_lawNamed_47
        · have ec_8 := q_neq (a := r_7.toInt) (b := 0) rfl (by decide) c_8
          refine lv_iconst (v := 3) hx hb dX3_lawNamed_42 (by decide) ?_
          refine lv_goto (tgt := 47) hx hb dX3_lawNamed_43 (by decide) ?_
          have z_10 : (3 : Int32).toInt = 3 := by decide
          have hP9 := hP.sub (ws' := [(d, .inr (3, [.ref d_tape, .ref d_town, .int d_token, .int d_start, .int d_next, .int d_value, .int d_fault, .int d_faultPlace])), (d_tape, .inr (6, [.ref d_tape_bytes, .int d_tape_length])), (d_tape_bytes, .inl (kd_tape_bytes, 2400, .inl fd_tape_bytes))]) [0, 1, 2] rfl
          have hD9 := hD.sub (ws' := [(d, .inr (3, [.ref d_tape, .ref d_town, .int d_token, .int d_start, .int d_next, .int d_value, .int d_fault, .int d_faultPlace])), (d_tape, .inr (6, [.ref d_tape_bytes, .int d_tape_length])), (d_tape_bytes, .inl (kd_tape_bytes, 2400, .inl fd_tape_bytes))]) [0, 1, 2] (by decide) rfl
          have hK9 := hK.sub (tys' := []) [] rfl
          refine gQe eQ ?_
          exact W.iret (v := 3) hx hb hr (fun t9 ht hW => ⟨⟨3, 3, rfl, rfl, ⟨by decide, by decide⟩, by rw [ht]; exact hP9, va_K.moved hW.alike hK9, hD9⟩, hS.F ht⟩) hS.2.2 dX3_lawNamed_47
      · have ec_6 := q_neq (a := r_5.toInt) (b := 0) rfl (by decide) c_6
        refine lv_iconst (v := 2) hx hb dX3_lawNamed_31 (by decide) ?_
        have z_11 : (2 : Int32).toInt = 2 := by decide
        have hP9 := hP.sub (ws' := [(d, .inr (3, [.ref d_tape, .ref d_town, .int d_token, .int d_start, .int d_next, .int d_value, .int d_fault, .int d_faultPlace])), (d_tape, .inr (6, [.ref d_tape_bytes, .int d_tape_length])), (d_tape_bytes, .inl (kd_tape_bytes, 2400, .inl fd_tape_bytes))]) [0, 1, 2] rfl
        have hD9 := hD.sub (ws' := [(d, .inr (3, [.ref d_tape, .ref d_town, .int d_token, .int d_start, .int d_next, .int d_value, .int d_fault, .int d_faultPlace])), (d_tape, .inr (6, [.ref d_tape_bytes, .int d_tape_length])), (d_tape_bytes, .inl (kd_tape_bytes, 2400, .inl fd_tape_bytes))]) [0, 1, 2] (by decide) rfl
        have hK9 := hK.sub (tys' := []) [] rfl
        refine gQe eQ ?_
        exact W.iret (v := 2) hx hb hr (fun t9 ht hW => ⟨⟨2, 2, rfl, rfl, ⟨by decide, by decide⟩, by rw [ht]; exact hP9, va_K.moved hW.alike hK9, hD9⟩, hS.F ht⟩) hS.2.2 dX3_lawNamed_32
    · have ec_4 := q_neq (a := r_3.toInt) (b := 0) rfl (by decide) c_4
      refine lv_iconst (v := 1) hx hb dX3_lawNamed_20 (by decide) ?_
      have z_12 : (1 : Int32).toInt = 1 := by decide
      have hP9 := hP.sub (ws' := [(d, .inr (3, [.ref d_tape, .ref d_town, .int d_token, .int d_start, .int d_next, .int d_value, .int d_fault, .int d_faultPlace])), (d_tape, .inr (6, [.ref d_tape_bytes, .int d_tape_length])), (d_tape_bytes, .inl (kd_tape_bytes, 2400, .inl fd_tape_bytes))]) [0, 1, 2] rfl
      have hD9 := hD.sub (ws' := [(d, .inr (3, [.ref d_tape, .ref d_town, .int d_token, .int d_start, .int d_next, .int d_value, .int d_fault, .int d_faultPlace])), (d_tape, .inr (6, [.ref d_tape_bytes, .int d_tape_length])), (d_tape_bytes, .inl (kd_tape_bytes, 2400, .inl fd_tape_bytes))]) [0, 1, 2] (by decide) rfl
      have hK9 := hK.sub (tys' := []) [] rfl
      refine gQe eQ ?_
      exact W.iret (v := 1) hx hb hr (fun t9 ht hW => ⟨⟨1, 1, rfl, rfl, ⟨by decide, by decide⟩, by rw [ht]; exact hP9, va_K.moved hW.alike hK9, hD9⟩, hS.F ht⟩) hS.2.2 dX3_lawNamed_21
  · have ec_2 := q_neq (a := r_1.toInt) (b := 0) rfl (by decide) c_2
    refine lv_iconst (v := 0) hx hb dX3_lawNamed_9 (by decide) ?_
    have z_13 : (0 : Int32).toInt = 0 := by decide
    have hP9 := hP.sub (ws' := [(d, .inr (3, [.ref d_tape, .ref d_town, .int d_token, .int d_start, .int d_next, .int d_value, .int d_fault, .int d_faultPlace])), (d_tape, .inr (6, [.ref d_tape_bytes, .int d_tape_length])), (d_tape_bytes, .inl (kd_tape_bytes, 2400, .inl fd_tape_bytes))]) [0, 1, 2] rfl
    have hD9 := hD.sub (ws' := [(d, .inr (3, [.ref d_tape, .ref d_town, .int d_token, .int d_start, .int d_next, .int d_value, .int d_fault, .int d_faultPlace])), (d_tape, .inr (6, [.ref d_tape_bytes, .int d_tape_length])), (d_tape_bytes, .inl (kd_tape_bytes, 2400, .inl fd_tape_bytes))]) [0, 1, 2] (by decide) rfl
    have hK9 := hK.sub (tys' := []) [] rfl
    refine gQe eQ ?_
    exact W.iret (v := 0) hx hb hr (fun t9 ht hW => ⟨⟨0, 0, rfl, rfl, ⟨by decide, by decide⟩, by rw [ht]; exact hP9, va_K.moved hW.alike hK9, hD9⟩, hS.F ht⟩) hS.2.2 dX3_lawNamed_10
