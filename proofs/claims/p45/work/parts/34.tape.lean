set_option maxHeartbeats 4000000 in
set_option maxRecDepth 100000 in
theorem e_hasRoom (l : Launch) (dC : Nat → ClassId) (dI : Nat → Nat → Nat) (sz : Nat) (e : Nat) (e_bytes : Nat) (e_length : Int32) (b_e_length : (0) ≤ e_length.toInt ∧ e_length.toInt ≤ 2400) : Met l yX6_hasRoom (.code yX6_hasRoom cX6_hasRoom 1 (some .boolean) :: ALLW) ({ frames := 0, cells := 0, slots := 0, locals := 0 }) (va_Pc [.ref e] (fun U => U.heap.size = sz ∧ va_P (dC, dI) vwCl [(e, .inr (6, [.ref e_bytes, .int e_length]))] U.heap ∧ va_K (dC, dI) vwCl [] U ∧ va_D (fun _ => True) [(e, .inr (6, [.ref e_bytes, .int e_length]))])) (va_Qi (fun (r u : Int32) => r = u) (fun (u : Int32) (t9 : State) => ((0) ≤ u.toInt ∧ u.toInt ≤ 1) ∧ va_P (dC, dI) vwCl [(e, .inr (6, [.ref e_bytes, .int e_length]))] t9.heap ∧ va_K (dC, dI) vwCl [] t9 ∧ va_D (va_A [(e, .inr (6, [.ref e_bytes, .int e_length]))] sz) [(e, .inr (6, [.ref e_bytes, .int e_length]))]) (va_A [(e, .inr (6, [.ref e_bytes, .int e_length]))] sz)) 0 0 (va_A [(e, .inr (6, [.ref e_bytes, .int e_length]))] sz) := by
  refine Met.ofW (cc := cX6_hasRoom) (maxL := 1) (ret := (some .boolean)) (by decide) rfl ?_
  intro pr_ en_ s me_ args below meth c s₁ B hml hv
  obtain ⟨rfl, hsz, hP, hK, hD0⟩ := hv
  have hx := B.exec
  have hb := B.bytes
  have hr := B.returns
  have hts0 := atoms_spec (ws := (.code yX6_hasRoom cX6_hasRoom 1 (some .boolean) :: ALLW)) B.pre
  have hts := fun (w : Cond) (h : w ∈ ALLW) => hts0 w (List.mem_cons_of_mem _ h)
  have hown : s.vm.findClass RX6 = some me_.cls := findClass_of_methodNamed B.named
  have hlocks := B.notSynchronized
  subst hsz
  have hD := hD0.self (sz := s.heap.size)
  generalize hAe : va_A [(e, .inr (6, [.ref e_bytes, .int e_length]))] s.heap.size = A at hD ⊢
  have hA : ∀ q : Nat, s.heap.size ≤ q → A q := fun q h => by rw [← hAe]; exact Or.inr h
  have hS : va_S A s.heap s.heap [] := va_S.rf
  have hP : va_P (dC, dI) vwCl [(e, .inr (6, [.ref e_bytes, .int e_length]))] s.heap := hP
  have hl := lv_entry ([.ref e]) (n := 1) (Nat.le_of_ble_eq_true rfl)
  rw [lg_entry_eq]
  generalize (lg_sl ([.ref e]) ++ List.replicate (1 - (lg_sl ([.ref e])).length) Slot.unset).toArray = ls at hl ⊢
  have hl : lv_has ls 1 [(0, .ref e)] := hl
  refine gQ (fun Q eQ => ?_)
  refine lv_aload_n hx hb dX6_hasRoom_0 rfl (lv_at hl 0 rfl) ?_
  refine va_get (D := (dC, dI)) (ci := 6) (v := .int e_length) (C := RX6) (T := TX6) (N := 2) hx hb hts inA6 hown hK hP 0 rfl rfl 1 (by decide) (hts _ w_59) (fun _ h9 => h9) rfl dX6_hasRoom_1 ?_
  refine lv_bipush (v := 20) hx hb dX6_hasRoom_4 (by decide) ?_
  refine lv_iadd hx hb dX6_hasRoom_6 ?_
  refine lv_topi (fun x_1 ex_1 => ?_)
  have b_x_1 := q_add (a := e_length.toInt) (b := 20) ex_1 rfl (by decide) (by omega) (by omega)
  refine lv_sipush (v := 2400) hx hb dX6_hasRoom_7 (by decide) ?_
  refine lv_icmp_gt (tgt := 17) hx hb dX6_hasRoom_10 (by decide) (fun c_2 => ?_) (fun c_2 => ?_)
  · have ec_2 := q_gt (a := x_1.toInt) (b := 2400) rfl (by decide) c_2
    refine lv_iconst (v := 0) hx hb dX6_hasRoom_17 (by decide) ?_
    have z_3 : (0 : Int32).toInt = 0 := by decide
    have hP9 := hP.sub (ws' := [(e, .inr (6, [.ref e_bytes, .int e_length]))]) [0] rfl
    have hD9 := hD.sub (ws' := [(e, .inr (6, [.ref e_bytes, .int e_length]))]) [0] (by decide) rfl
    have hK9 := hK.sub (tys' := []) [] rfl
    refine gQe eQ ?_
    exact W.zret (v := 0) hx hb hr (by decide) (fun t9 ht hW => ⟨⟨0, 0, rfl, rfl, ⟨by decide, by decide⟩, by rw [ht]; exact hP9, va_K.moved hW.alike hK9, hD9⟩, hS.F ht⟩) hS.2.2 dX6_hasRoom_18
  · have ec_2 := q_ngt (a := x_1.toInt) (b := 2400) rfl (by decide) c_2
    refine lv_iconst (v := 1) hx hb dX6_hasRoom_13 (by decide) ?_
    refine lv_goto (tgt := 18) hx hb dX6_hasRoom_14 (by decide) ?_
    have z_4 : (1 : Int32).toInt = 1 := by decide
    have hP9 := hP.sub (ws' := [(e, .inr (6, [.ref e_bytes, .int e_length]))]) [0] rfl
    have hD9 := hD.sub (ws' := [(e, .inr (6, [.ref e_bytes, .int e_length]))]) [0] (by decide) rfl
    have hK9 := hK.sub (tys' := []) [] rfl
    refine gQe eQ ?_
    exact W.zret (v := 1) hx hb hr (by decide) (fun t9 ht hW => ⟨⟨1, 1, rfl, rfl, ⟨by decide, by decide⟩, by rw [ht]; exact hP9, va_K.moved hW.alike hK9, hD9⟩, hS.F ht⟩) hS.2.2 dX6_hasRoom_18
set_option maxHeartbeats 4000000 in
set_option maxRecDepth 100000 in
theorem e_append (l : Launch) (dC : Nat → ClassId) (dI : Nat → Nat → Nat) (sz : Nat) (e : Nat) (a : Int32) (e_bytes : Nat) (e_length : Int32) (ke_bytes : ClassId) (fe_bytes : Nat → Int32) (b_e_length : (0) ≤ e_length.toInt ∧ e_length.toInt ≤ 2400) : Met l yX6_append (.code yX6_append cX6_append 3 none :: ALLW) ({ frames := 0, cells := 0, slots := 0, locals := 0 }) (va_Pc [.ref e, .int a] (fun U => U.heap.size = sz ∧ va_P (dC, dI) vwCl [(e, .inr (6, [.ref e_bytes, .int e_length])), (e_bytes, .inl (ke_bytes, 2400, .inl fe_bytes))] U.heap ∧ va_K (dC, dI) vwCl [(ke_bytes, .byte)] U ∧ va_D (fun _ => True) [(e, .inr (6, [.ref e_bytes, .int e_length])), (e_bytes, .inl (ke_bytes, 2400, .inl fe_bytes))])) (va_Qv (fun _ : Unit => True) (fun (_ : Unit) (t9 : State) => ∃ (e_lengthz : Int32) (fe_bytesz : Nat → Int32), ((0) ≤ e_lengthz.toInt ∧ e_lengthz.toInt ≤ 2400) ∧ va_P (dC, dI) vwCl [(e, .inr (6, [.ref e_bytes, .int e_lengthz])), (e_bytes, .inl (ke_bytes, 2400, .inl fe_bytesz))] t9.heap ∧ va_K (dC, dI) vwCl [] t9 ∧ va_D (va_A [(e, .inr (6, [.ref e_bytes, .int e_length])), (e_bytes, .inl (ke_bytes, 2400, .inl fe_bytes))] sz) [(e, .inr (6, [.ref e_bytes, .int e_lengthz])), (e_bytes, .inl (ke_bytes, 2400, .inl fe_bytesz))]) (va_A [(e, .inr (6, [.ref e_bytes, .int e_length])), (e_bytes, .inl (ke_bytes, 2400, .inl fe_bytes))] sz)) 0 0 (va_A [(e, .inr (6, [.ref e_bytes, .int e_length])), (e_bytes, .inl (ke_bytes, 2400, .inl fe_bytes))] sz) := by
  refine Met.ofW (cc := cX6_append) (maxL := 3) (ret := none) (by decide) rfl ?_
  intro pr_ en_ s me_ args below meth c s₁ B hml hv
  obtain ⟨rfl, hsz, hP, hK, hD0⟩ := hv
  have hx := B.exec
  have hb := B.bytes
  have hr := B.returns
  have hts0 := atoms_spec (ws := (.code yX6_append cX6_append 3 none :: ALLW)) B.pre
  have hts := fun (w : Cond) (h : w ∈ ALLW) => hts0 w (List.mem_cons_of_mem _ h)
  have hown : s.vm.findClass RX6 = some me_.cls := findClass_of_methodNamed B.named
  have hlocks := B.notSynchronized
  subst hsz
  have hD := hD0.self (sz := s.heap.size)
  generalize hAe : va_A [(e, .inr (6, [.ref e_bytes, .int e_length])), (e_bytes, .inl (ke_bytes, 2400, .inl fe_bytes))] s.heap.size = A at hD ⊢
  have hA : ∀ q : Nat, s.heap.size ≤ q → A q := fun q h => by rw [← hAe]; exact Or.inr h
  have hS : va_S A s.heap s.heap [] := va_S.rf
  have hP : va_P (dC, dI) vwCl [(e, .inr (6, [.ref e_bytes, .int e_length])), (e_bytes, .inl (ke_bytes, 2400, .inl fe_bytes))] s.heap := hP
  have hl := lv_entry ([.ref e, .int a]) (n := 3) (Nat.le_of_ble_eq_true rfl)
  rw [lg_entry_eq]
  generalize (lg_sl ([.ref e, .int a]) ++ List.replicate (3 - (lg_sl ([.ref e, .int a])).length) Slot.unset).toArray = ls at hl ⊢
  have hl : lv_has ls 3 [(0, .ref e), (1, .int a)] := hl
  refine gQ (fun Q eQ => ?_)
  refine lv_bipush (v := 24) hx hb dX6_append_0 (by decide) ?_
  refine lv_istore_n (lv' := [(2, .int 24), (0, .ref e), (1, .int a)]) hx hb dX6_append_2 rfl hl (by decide) rfl (fun ls hl => ?_)
  have hL3_65 : ∀ (k : Nat) (v_7 : Int32) (v_8 : Int32) (f_9 : Nat → Int32) (H : Heap) (locs : List Loc) (ls : Array Slot), (v_7.toInt - (-8)).toNat < k → ((-8) ≤ v_7.toInt ∧ v_7.toInt ≤ 24) → ((0) ≤ v_8.toInt ∧ v_8.toInt ≤ 2400) → va_P (dC, dI) vwCl [(e, .inr (6, [.ref e_bytes, .int v_8])), (e_bytes, .inl (ke_bytes, 2400, .inl f_9))] H → va_D A [(e, .inr (6, [.ref e_bytes, .int v_8])), (e_bytes, .inl (ke_bytes, 2400, .inl f_9))] → va_S A s.heap H locs → lv_has ls 3 [(0, .ref e), (1, .int a), (2, .int v_7)] → W pr_ l en_ ({ frames := 0, cells := 0, slots := 0, locals := 0 }) s me_ ([.ref e, .int a]).toArray below meth c H locs 0 0 Q (F0 me_ 3 ls []) := by
    intro k
    induction k with
    | zero => intro v_7 v_8 f_9 H locs ls hmu; exact absurd hmu (Nat.not_lt_zero _)
    | succ k ih3_65 =>
      intro v_7 v_8 f_9 H locs ls hmu3 b_v_7 b_v_8 hP hD hS hl
      refine lv_iload_n hx hb dX6_append_3 rfl (lv_at hl 2 rfl) ?_
      refine lv_if_lt (tgt := 46) hx hb dX6_append_4 (by decide) (fun c_66 => ?_) (fun c_66 => ?_)
      · have ec_66 := q_lt (a := v_7.toInt) (b := 0) rfl (by decide) c_66
        have hP9 := hP.sub (ws' := [(e, .inr (6, [.ref e_bytes, .int v_8])), (e_bytes, .inl (ke_bytes, 2400, .inl f_9))]) [0, 1] rfl
        have hD9 := hD.sub (ws' := [(e, .inr (6, [.ref e_bytes, .int v_8])), (e_bytes, .inl (ke_bytes, 2400, .inl f_9))]) [0, 1] (by decide) rfl
        have hK9 := hK.sub (tys' := []) [] rfl
        refine gQe eQ ?_
        exact W.vret hx hb hr (fun t9 ht hW => ⟨⟨(), rfl, trivial, v_8, f_9, b_v_8, by rw [ht]; exact hP9, va_K.moved hW.alike hK9, hD9⟩, hS.F ht⟩) hS.2.2 dX6_append_46
      · have ec_66 := q_nlt (a := v_7.toInt) (b := 0) rfl (by decide) c_66
        refine lv_aload_n hx hb dX6_append_7 rfl (lv_at hl 0 rfl) ?_
        refine va_get (D := (dC, dI)) (ci := 6) (v := .int v_8) (C := RX6) (T := TX6) (N := 2) hx hb hts inA6 hown hK hP 0 rfl rfl 1 (by decide) (hts _ w_59) (fun _ h9 => h9) rfl dX6_append_8 ?_
        refine lv_sipush (v := 2400) hx hb dX6_append_11 (by decide) ?_
        refine lv_icmp_ge (tgt := 46) hx hb dX6_append_14 (by decide) (fun c_67 => ?_) (fun c_67 => ?_)
        · have ec_67 := q_ge (a := v_8.toInt) (b := 2400) rfl (by decide) c_67
          have hP9 := hP.sub (ws' := [(e, .inr (6, [.ref e_bytes, .int v_8])), (e_bytes, .inl (ke_bytes, 2400, .inl f_9))]) [0, 1] rfl
          have hD9 := hD.sub (ws' := [(e, .inr (6, [.ref e_bytes, .int v_8])), (e_bytes, .inl (ke_bytes, 2400, .inl f_9))]) [0, 1] (by decide) rfl
          have hK9 := hK.sub (tys' := []) [] rfl
          refine gQe eQ ?_
          exact W.vret hx hb hr (fun t9 ht hW => ⟨⟨(), rfl, trivial, v_8, f_9, b_v_8, by rw [ht]; exact hP9, va_K.moved hW.alike hK9, hD9⟩, hS.F ht⟩) hS.2.2 dX6_append_46
        · have ec_67 := q_nge (a := v_8.toInt) (b := 2400) rfl (by decide) c_67
          refine lv_aload_n hx hb dX6_append_17 rfl (lv_at hl 0 rfl) ?_
          refine va_get (D := (dC, dI)) (ci := 6) (v := .ref e_bytes) (C := RX6) (T := TX6) (N := 2) hx hb hts inA6 hown hK hP 0 rfl rfl 0 (by decide) (hts _ w_58) (fun _ h9 => h9) rfl dX6_append_18 ?_
          refine lv_aload_n hx hb dX6_append_21 rfl (lv_at hl 0 rfl) ?_
          refine va_get (D := (dC, dI)) (ci := 6) (v := .int v_8) (C := RX6) (T := TX6) (N := 2) hx hb hts inA6 hown hK hP 0 rfl rfl 1 (by decide) (hts _ w_59) (fun _ h9 => h9) rfl dX6_append_22 ?_
          refine lv_iload_n hx hb dX6_append_25 rfl (lv_at hl 1 rfl) ?_
          refine lv_iload_n hx hb dX6_append_26 rfl (lv_at hl 2 rfl) ?_
          refine lv_ishr hx hb dX6_append_27 ?_
          refine lv_topi (fun x_68 ex_68 => ?_)
          obtain ⟨y_69, ey_69⟩ : ∃ y : Int32, (x_68 : Int32).toInt8.toInt32 = y := ⟨_, rfl⟩
          refine lv_i2b (v := y_69) hx hb dX6_append_28 ey_69 ?_
          refine va_bast hx hb hK hP hD hS 1 0 rfl rfl (vp_in_iff.mpr ⟨by omega, by omega⟩) dX6_append_29 (fun H locs hP hD hS => ?_)
          generalize ef_70 : upd f_9 (v_8 : Int32).toNatClampNeg (vp_nar .byte y_69) = f_70 at hP hD
          have hP : va_P (dC, dI) vwCl [(e, .inr (6, [.ref e_bytes, .int v_8])), (e_bytes, .inl (ke_bytes, 2400, .inl f_70))] H := hP
          have hD : va_D A [(e, .inr (6, [.ref e_bytes, .int v_8])), (e_bytes, .inl (ke_bytes, 2400, .inl f_70))] := hD
          refine lv_aload_n hx hb dX6_append_30 rfl (lv_at hl 0 rfl) ?_
          refine lv_dup hx hb dX6_append_31 rfl ?_
          refine va_get (D := (dC, dI)) (ci := 6) (v := .int v_8) (C := RX6) (T := TX6) (N := 2) hx hb hts inA6 hown hK hP 0 rfl rfl 1 (by decide) (hts _ w_59) (fun _ h9 => h9) rfl dX6_append_32 ?_
          refine lv_iconst (v := 1) hx hb dX6_append_35 (by decide) ?_
          refine lv_iadd hx hb dX6_append_36 ?_
          refine lv_topi (fun x_71 ex_71 => ?_)
          have b_x_71 := q_add (a := v_8.toInt) (b := 1) ex_71 rfl (by decide) (by omega) (by omega)
          refine va_put (D := (dC, dI)) (ci := 6) (v := .int x_71) (ty := tyX6 1) (C := RX6) (T := TX6) (N := 2) hx hb hts inA6 tyX6 tyX6_ok nmX6 hown hK hP hD hS 0 rfl rfl 1 (by decide) (hts _ w_59) (fun _ h9 => h9) rfl (tyX6_ok 1 (by decide)) rfl rfl (Nat.le_of_ble_eq_true rfl) dX6_append_37 (fun H locs hP hD hS => ?_)
          have hP : va_P (dC, dI) vwCl [(e, .inr (6, [.ref e_bytes, .int x_71])), (e_bytes, .inl (ke_bytes, 2400, .inl f_70))] H := hP
          have hD : va_D A [(e, .inr (6, [.ref e_bytes, .int x_71])), (e_bytes, .inl (ke_bytes, 2400, .inl f_70))] := hD
          obtain ⟨y_72, ey_72⟩ : ∃ y : Int32, y = v_7 + Int32.ofInt (-8) := ⟨_, rfl⟩
          have b_y_72 := q_add (a := v_7.toInt) (b := -8) ey_72 rfl (by decide) (by omega) (by omega)
          refine lv_iinc (v := y_72) (lv' := [(2, .int y_72), (0, .ref e), (1, .int a)]) hx hb dX6_append_40 hl (k := 2) rfl ey_72.symm (by decide) rfl (fun ls hl => ?_)
          refine lv_goto (tgt := 3) hx hb dX6_append_43 (by decide) ?_
          have bq_73 : (-8) ≤ y_72.toInt ∧ y_72.toInt ≤ 24 := ⟨by omega, by omega⟩
          have bq_74 : (0) ≤ x_71.toInt ∧ x_71.toInt ≤ 2400 := ⟨by omega, by omega⟩
          exact ih3_65 y_72 x_71 f_70 H locs ls (by omega) bq_73 bq_74 hP hD hS (lv_sub hl [1, 2, 0] rfl)
  exact hL3_65 _ 24 e_length fe_bytes s.heap [] ls (Nat.lt_succ_self _) ⟨by decide, by decide⟩ b_e_length hP hD hS (lv_sub hl [1, 2, 0] rfl)
set_option maxHeartbeats 4000000 in
set_option maxRecDepth 100000 in
theorem e_at (l : Launch) (dC : Nat → ClassId) (dI : Nat → Nat → Nat) (sz : Nat) (e : Nat) (a : Int32) (e_bytes : Nat) (e_length : Int32) (ke_bytes : ClassId) (fe_bytes : Nat → Int32) (b_e_length : (0) ≤ e_length.toInt ∧ e_length.toInt ≤ 2400) : Met l yX6_at (.code yX6_at cX6_at 2 (some .int) :: ALLW) ({ frames := 0, cells := 0, slots := 0, locals := 0 }) (va_Pc [.ref e, .int a] (fun U => U.heap.size = sz ∧ va_P (dC, dI) vwCl [(e, .inr (6, [.ref e_bytes, .int e_length])), (e_bytes, .inl (ke_bytes, 2400, .inl fe_bytes))] U.heap ∧ va_K (dC, dI) vwCl [(ke_bytes, .byte)] U ∧ va_D (fun _ => True) [(e, .inr (6, [.ref e_bytes, .int e_length])), (e_bytes, .inl (ke_bytes, 2400, .inl fe_bytes))])) (va_Qi (fun (r u : Int32) => r = u) (fun (u : Int32) (t9 : State) => (u = tat fe_bytes e_length a) ∧ va_P (dC, dI) vwCl [(e, .inr (6, [.ref e_bytes, .int e_length])), (e_bytes, .inl (ke_bytes, 2400, .inl fe_bytes))] t9.heap ∧ va_K (dC, dI) vwCl [] t9 ∧ va_D (va_A [(e, .inr (6, [.ref e_bytes, .int e_length])), (e_bytes, .inl (ke_bytes, 2400, .inl fe_bytes))] sz) [(e, .inr (6, [.ref e_bytes, .int e_length])), (e_bytes, .inl (ke_bytes, 2400, .inl fe_bytes))]) (va_A [(e, .inr (6, [.ref e_bytes, .int e_length])), (e_bytes, .inl (ke_bytes, 2400, .inl fe_bytes))] sz)) 0 0 (va_A [(e, .inr (6, [.ref e_bytes, .int e_length])), (e_bytes, .inl (ke_bytes, 2400, .inl fe_bytes))] sz) := by
  refine Met.ofW (cc := cX6_at) (maxL := 2) (ret := (some .int)) (by decide) rfl ?_
  intro pr_ en_ s me_ args below meth c s₁ B hml hv
  obtain ⟨rfl, hsz, hP, hK, hD0⟩ := hv
  have hx := B.exec
  have hb := B.bytes
  have hr := B.returns
  have hts0 := atoms_spec (ws := (.code yX6_at cX6_at 2 (some .int) :: ALLW)) B.pre
  have hts := fun (w : Cond) (h : w ∈ ALLW) => hts0 w (List.mem_cons_of_mem _ h)
  have hown : s.vm.findClass RX6 = some me_.cls := findClass_of_methodNamed B.named
  have hlocks := B.notSynchronized
  subst hsz
  have hD := hD0.self (sz := s.heap.size)
  generalize hAe : va_A [(e, .inr (6, [.ref e_bytes, .int e_length])), (e_bytes, .inl (ke_bytes, 2400, .inl fe_bytes))] s.heap.size = A at hD ⊢
  have hA : ∀ q : Nat, s.heap.size ≤ q → A q := fun q h => by rw [← hAe]; exact Or.inr h
  have hS : va_S A s.heap s.heap [] := va_S.rf
  have hP : va_P (dC, dI) vwCl [(e, .inr (6, [.ref e_bytes, .int e_length])), (e_bytes, .inl (ke_bytes, 2400, .inl fe_bytes))] s.heap := hP
  have hl := lv_entry ([.ref e, .int a]) (n := 2) (Nat.le_of_ble_eq_true rfl)
  rw [lg_entry_eq]
  generalize (lg_sl ([.ref e, .int a]) ++ List.replicate (2 - (lg_sl ([.ref e, .int a])).length) Slot.unset).toArray = ls at hl ⊢
  have hl : lv_has ls 2 [(0, .ref e), (1, .int a)] := hl
  refine gQ (fun Q eQ => ?_)
  refine lv_iload_n hx hb dX6_at_0 rfl (lv_at hl 1 rfl) ?_
  have rg_2 := q_rng a
  refine lv_if_lt (tgt := 32) hx hb dX6_at_1 (by decide) (fun c_1 => ?_) (fun c_1 => ?_)
  · have ec_1 := q_lt (a := a.toInt) (b := 0) rfl (by decide) c_1
    refine lv_iconst (v := (-1)) hx hb dX6_at_32 (by decide) ?_
    have z_3 : ((-1) : Int32).toInt = -1 := by decide
    have hP9 := hP.sub (ws' := [(e, .inr (6, [.ref e_bytes, .int e_length])), (e_bytes, .inl (ke_bytes, 2400, .inl fe_bytes))]) [0, 1] rfl
    have hD9 := hD.sub (ws' := [(e, .inr (6, [.ref e_bytes, .int e_length])), (e_bytes, .inl (ke_bytes, 2400, .inl fe_bytes))]) [0, 1] (by decide) rfl
    have hK9 := hK.sub (tys' := []) [] rfl
    refine gQe eQ ?_
    exact W.iret (v := (-1)) hx hb hr (fun t9 ht hW => ⟨⟨(-1), (-1), rfl, rfl, (tat_out (by omega)), by rw [ht]; exact hP9, va_K.moved hW.alike hK9, hD9⟩, hS.F ht⟩) hS.2.2 dX6_at_33
  · have ec_1 := q_nlt (a := a.toInt) (b := 0) rfl (by decide) c_1
    refine lv_iload_n hx hb dX6_at_4 rfl (lv_at hl 1 rfl) ?_
    refine lv_aload_n hx hb dX6_at_5 rfl (lv_at hl 0 rfl) ?_
    refine va_get (D := (dC, dI)) (ci := 6) (v := .int e_length) (C := RX6) (T := TX6) (N := 2) hx hb hts inA6 hown hK hP 0 rfl rfl 1 (by decide) (hts _ w_59) (fun _ h9 => h9) rfl dX6_at_6 ?_
    refine lv_icmp_ge (tgt := 32) hx hb dX6_at_9 (by decide) (fun c_4 => ?_) (fun c_4 => ?_)
    · have ec_4 := q_ge (a := a.toInt) (b := e_length.toInt) rfl rfl c_4
      refine lv_iconst (v := (-1)) hx hb dX6_at_32 (by decide) ?_
      have z_5 : ((-1) : Int32).toInt = -1 := by decide
      have hP9 := hP.sub (ws' := [(e, .inr (6, [.ref e_bytes, .int e_length])), (e_bytes, .inl (ke_bytes, 2400, .inl fe_bytes))]) [0, 1] rfl
      have hD9 := hD.sub (ws' := [(e, .inr (6, [.ref e_bytes, .int e_length])), (e_bytes, .inl (ke_bytes, 2400, .inl fe_bytes))]) [0, 1] (by decide) rfl
      have hK9 := hK.sub (tys' := []) [] rfl
      refine gQe eQ ?_
      exact W.iret (v := (-1)) hx hb hr (fun t9 ht hW => ⟨⟨(-1), (-1), rfl, rfl, (tat_out (by omega)), by rw [ht]; exact hP9, va_K.moved hW.alike hK9, hD9⟩, hS.F ht⟩) hS.2.2 dX6_at_33
    · have ec_4 := q_nge (a := a.toInt) (b := e_length.toInt) rfl rfl c_4
      refine lv_iload_n hx hb dX6_at_12 rfl (lv_at hl 1 rfl) ?_
      refine lv_sipush (v := 2400) hx hb dX6_at_13 (by decide) ?_
      refine lv_icmp_ge (tgt := 32) hx hb dX6_at_16 (by decide) (fun c_6 => absurd (q_ge (a := a.toInt) (b := 2400) rfl (by decide) c_6) (by omega)) (fun c_6 => ?_)
      have ec_6 := q_nge (a := a.toInt) (b := 2400) rfl (by decide) c_6
      refine lv_aload_n hx hb dX6_at_19 rfl (lv_at hl 0 rfl) ?_
      refine va_get (D := (dC, dI)) (ci := 6) (v := .ref e_bytes) (C := RX6) (T := TX6) (N := 2) hx hb hts inA6 hown hK hP 0 rfl rfl 0 (by decide) (hts _ w_58) (fun _ h9 => h9) rfl dX6_at_20 ?_
      refine lv_iload_n hx hb dX6_at_23 rfl (lv_at hl 1 rfl) ?_
      refine va_bald hx hb hK hP 1 0 rfl rfl (vp_in_iff.mpr ⟨by omega, by omega⟩) dX6_at_24 ?_
      refine lv_topi (fun x_7 ex_7 => ?_)
      refine lv_sipush (v := 255) hx hb dX6_at_25 (by decide) ?_
      refine lv_iand hx hb dX6_at_28 ?_
      refine lv_topi (fun x_8 ex_8 => ?_)
      refine lv_goto (tgt := 33) hx hb dX6_at_29 (by decide) ?_
      have hP9 := hP.sub (ws' := [(e, .inr (6, [.ref e_bytes, .int e_length])), (e_bytes, .inl (ke_bytes, 2400, .inl fe_bytes))]) [0, 1] rfl
      have hD9 := hD.sub (ws' := [(e, .inr (6, [.ref e_bytes, .int e_length])), (e_bytes, .inl (ke_bytes, 2400, .inl fe_bytes))]) [0, 1] (by decide) rfl
      have hK9 := hK.sub (tys' := []) [] rfl
      refine gQe eQ ?_
      exact W.iret (v := x_8) hx hb hr (fun t9 ht hW => ⟨⟨x_8, x_8, rfl, rfl, (tat_in ⟨by omega, by omega, by omega⟩ ex_7 ex_8), by rw [ht]; exact hP9, va_K.moved hW.alike hK9, hD9⟩, hS.F ht⟩) hS.2.2 dX6_at_33
