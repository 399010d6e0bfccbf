set_option maxHeartbeats 4000000 in
set_option maxRecDepth 100000 in
theorem m_sizeOf (l : Launch) (dC : Nat → ClassId) (dI : Nat → Nat → Nat) (sz : Nat) (a : Int32)  : Met l yX9_sizeOf (.code yX9_sizeOf cX9_sizeOf 3 (some .int) :: ALLW) ({ frames := 0, cells := 0, slots := 0, locals := 0 }) (va_Pc [.int a] (fun U => U.heap.size = sz ∧ va_P (dC, dI) vwCl [] U.heap ∧ va_K (dC, dI) vwCl [] U ∧ va_D (fun _ => True) [])) (va_Qi (fun (r u : Int32) => r = u) (fun (u : Int32) (t9 : State) => va_P (dC, dI) vwCl [] t9.heap ∧ va_K (dC, dI) vwCl [] t9 ∧ va_D (va_A [] sz) []) (va_A [] sz)) 0 0 (va_A [] sz) := by
  refine Met.ofW (cc := cX9_sizeOf) (maxL := 3) (ret := (some .int)) (by decide) rfl ?_
  intro pr_ en_ s me_ args below meth c s₁ B hml hv
  obtain ⟨rfl, hsz, hP, hK, hD0⟩ := hv
  have hx := B.exec
  have hb := B.bytes
  have hr := B.returns
  have hts0 := atoms_spec (ws := (.code yX9_sizeOf cX9_sizeOf 3 (some .int) :: ALLW)) B.pre
  have hts := fun (w : Cond) (h : w ∈ ALLW) => hts0 w (List.mem_cons_of_mem _ h)
  have hown : s.vm.findClass RX9 = some me_.cls := findClass_of_methodNamed B.named
  have hlocks := B.notSynchronized
  subst hsz
  have hD := hD0.self (sz := s.heap.size)
  generalize hAe : va_A [] s.heap.size = A at hD ⊢
  have hA : ∀ q : Nat, s.heap.size ≤ q → A q := fun q h => by rw [← hAe]; exact Or.inr h
  have hS : va_S A s.heap s.heap [] := va_S.rf
  have hP : va_P (dC, dI) vwCl [] s.heap := hP
  have hl := lv_entry ([.int a]) (n := 3) (Nat.le_of_ble_eq_true rfl)
  rw [lg_entry_eq]
  generalize (lg_sl ([.int a]) ++ List.replicate (3 - (lg_sl ([.int a])).length) Slot.unset).toArray = ls at hl ⊢
  have hl : lv_has ls 3 [(0, .int a)] := hl
  refine gQ (fun Q eQ => ?_)
  refine lv_iconst (v := 0) hx hb dX9_sizeOf_0 (by decide) ?_
  refine lv_istore_n (lv' := [(1, .int 0), (0, .int a)]) hx hb dX9_sizeOf_1 rfl hl (by decide) rfl (fun ls hl => ?_)
  refine lv_iload_n hx hb dX9_sizeOf_2 rfl (lv_at hl 1 rfl) ?_
  refine lv_istore_n (lv' := [(2, .int a), (1, .int 0), (0, .int a)]) hx hb dX9_sizeOf_3 rfl hl (by decide) rfl (fun ls hl => ?_)
  have hL4_106 : ∀ (k : Nat) (v_5 : Int32) (v_6 : Int32) (H : Heap) (locs : List Loc) (ls : Array Slot), v_6.toBitVec.toNat < k → va_P (dC, dI) vwCl [] H → va_D A [] → va_S A s.heap H locs → lv_has ls 3 [(1, .int v_5), (2, .int v_6)] → W pr_ l en_ ({ frames := 0, cells := 0, slots := 0, locals := 0 }) s me_ ([.int a]).toArray below meth c H locs 0 0 Q (F0 me_ 4 ls []) := by
    intro k
    induction k with
    | zero => intro v_5 v_6 H locs ls hmu; exact absurd hmu (Nat.not_lt_zero _)
    | succ k ih4_106 =>
      intro v_5 v_6 H locs ls hmu4  hP hD hS hl
      refine lv_iload_n hx hb dX9_sizeOf_4 rfl (lv_at hl 1 rfl) ?_
      have rg_108 := q_rng v_6
      refine lv_if_eq (tgt := 20) hx hb dX9_sizeOf_5 (by decide) (fun c_107 => ?_) (fun c_107 => ?_)
      · have ec_107 := q_eq (a := v_6.toInt) (b := 0) rfl (by decide) c_107
        refine lv_iload_n hx hb dX9_sizeOf_20 rfl (lv_at hl 0 rfl) ?_
        have hP9 := hP.sub (ws' := []) [] rfl
        have hD9 := hD.sub (ws' := []) [] (by decide) rfl
        have hK9 := hK.sub (tys' := []) [] rfl
        refine gQe eQ ?_
        exact W.iret (v := v_5) hx hb hr (fun t9 ht hW => ⟨⟨v_5, v_5, rfl, rfl, by rw [ht]; exact hP9, va_K.moved hW.alike hK9, hD9⟩, hS.F ht⟩) hS.2.2 dX9_sizeOf_21
      · have ec_107 := q_neq (a := v_6.toInt) (b := 0) rfl (by decide) c_107
        obtain ⟨y_109, ey_109⟩ : ∃ y : Int32, y = v_5 + Int32.ofInt (1) := ⟨_, rfl⟩
        refine lv_iinc (v := y_109) (lv' := [(1, .int y_109), (2, .int v_6)]) hx hb dX9_sizeOf_8 hl (k := 0) rfl ey_109.symm (by decide) rfl (fun ls hl => ?_)
        refine lv_iload_n hx hb dX9_sizeOf_11 rfl (lv_at hl 1 rfl) ?_
        refine lv_iload_n hx hb dX9_sizeOf_12 rfl (lv_at hl 1 rfl) ?_
        refine lv_iconst (v := 1) hx hb dX9_sizeOf_13 (by decide) ?_
        refine lv_isub hx hb dX9_sizeOf_14 ?_
        refine lv_topi (fun x_110 ex_110 => ?_)
        refine lv_iand hx hb dX9_sizeOf_15 ?_
        refine lv_topi (fun x_111 ex_111 => ?_)
        refine lv_istore_n (lv' := [(2, .int x_111), (1, .int y_109)]) hx hb dX9_sizeOf_16 rfl hl (by decide) rfl (fun ls hl => ?_)
        have hd_112 := q_sz (w := x_111) (v := v_6) (by omega) (by rw [ex_111, ex_110])
        refine lv_goto (tgt := 4) hx hb dX9_sizeOf_17 (by decide) ?_
        exact ih4_106 y_109 x_111 H locs ls (by omega)  hP hD hS (lv_sub hl [1, 0] rfl)
  exact hL4_106 _ 0 a s.heap [] ls (Nat.lt_succ_self _)  hP hD hS (lv_sub hl [1, 0] rfl)
