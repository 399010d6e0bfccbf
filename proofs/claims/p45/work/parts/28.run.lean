set_option maxHeartbeats 4000000 in
set_option maxRecDepth 100000 in
theorem r_noteDay (l : Launch) (dC : Nat → ClassId) (dI : Nat → Nat → Nat) (sz : Nat) (r : Nat) (d : Nat) (dv : Value) (r_came : Nat) (r_doneOn : Nat) (r_left : Nat) (r_key : Nat) (r_heardOn : Nat) (r_standing : Nat) (r_pile : Nat) (r_size : Nat) (r_firstOf : Nat) (r_nextOf : Nat) (r_done : Nat) (r_doneCount : Int32) (r_today : Int32) (r_lot : Int64) (d_piles : Nat) (d_idle : Nat) (d_waits : Nat) (d_needs : Nat) (kr_left : ClassId) (fr_left : Nat → Int32) (kd_needs : ClassId) (fd_needs : Nat → Int32) (kr_size : ClassId) (fr_size : Nat → Int32) (kr_pile : ClassId) (fr_pile : Nat → Int32) (kd_piles : ClassId) (fd_piles : Nat → Int64) (b_r_doneCount : (0) ≤ r_doneCount.toInt ∧ r_doneCount.toInt ≤ 49) (b_r_today : (0) ≤ r_today.toInt ∧ r_today.toInt ≤ 39) (g_fr_size : bd (0) (49) fr_size) (g_fr_pile : bd (0) (48) fr_pile) : Met l yX4_noteDay (.code yX4_noteDay cX4_noteDay 6 none :: ALLW) ({ frames := 1, cells := 0, slots := 0, locals := 64 }) (va_Pc [.ref r, .ref d] (fun U => U.heap.size = sz ∧ va_P (dC, dI) vwCl [(r, .inr (4, [dv, .ref r_came, .ref r_doneOn, .ref r_left, .ref r_key, .ref r_heardOn, .ref r_standing, .ref r_pile, .ref r_size, .ref r_firstOf, .ref r_nextOf, .ref r_done, .int r_doneCount, .int r_today, .long r_lot])), (d, .inr (0, [.ref d_piles, .ref d_idle, .ref d_waits, .ref d_needs])), (r_left, .inl (kr_left, 49, .inl fr_left)), (d_needs, .inl (kd_needs, 1960, .inl fd_needs)), (r_size, .inl (kr_size, 8, .inl fr_size)), (r_pile, .inl (kr_pile, 392, .inl fr_pile)), (d_piles, .inl (kd_piles, 320, .inr (.inl fd_piles)))] U.heap ∧ va_K (dC, dI) vwCl [(kr_left, .int), (kd_needs, .int), (kr_size, .int), (kr_pile, .int), (kd_piles, .long)] U ∧ va_D (fun _ => True) [(r, .inr (4, [dv, .ref r_came, .ref r_doneOn, .ref r_left, .ref r_key, .ref r_heardOn, .ref r_standing, .ref r_pile, .ref r_size, .ref r_firstOf, .ref r_nextOf, .ref r_done, .int r_doneCount, .int r_today, .long r_lot])), (d, .inr (0, [.ref d_piles, .ref d_idle, .ref d_waits, .ref d_needs])), (r_left, .inl (kr_left, 49, .inl fr_left)), (d_needs, .inl (kd_needs, 1960, .inl fd_needs)), (r_size, .inl (kr_size, 8, .inl fr_size)), (r_pile, .inl (kr_pile, 392, .inl fr_pile)), (d_piles, .inl (kd_piles, 320, .inr (.inl fd_piles)))])) (va_Qv (fun _ : Unit => True) (fun (_ : Unit) (t9 : State) => ∃ (fd_needsz : Nat → Int32) (fd_pilesz : Nat → Int64), va_P (dC, dI) vwCl [(r, .inr (4, [dv, .ref r_came, .ref r_doneOn, .ref r_left, .ref r_key, .ref r_heardOn, .ref r_standing, .ref r_pile, .ref r_size, .ref r_firstOf, .ref r_nextOf, .ref r_done, .int r_doneCount, .int r_today, .long r_lot])), (d, .inr (0, [.ref d_piles, .ref d_idle, .ref d_waits, .ref d_needs])), (r_left, .inl (kr_left, 49, .inl fr_left)), (d_needs, .inl (kd_needs, 1960, .inl fd_needsz)), (r_size, .inl (kr_size, 8, .inl fr_size)), (r_pile, .inl (kr_pile, 392, .inl fr_pile)), (d_piles, .inl (kd_piles, 320, .inr (.inl fd_pilesz)))] t9.heap ∧ va_K (dC, dI) vwCl [] t9 ∧ va_D (va_A [(r, .inr (4, [dv, .ref r_came, .ref r_doneOn, .ref r_left, .ref r_key, .ref r_heardOn, .ref r_standing, .ref r_pile, .ref r_size, .ref r_firstOf, .ref r_nextOf, .ref r_done, .int r_doneCount, .int r_today, .long r_lot])), (d, .inr (0, [.ref d_piles, .ref d_idle, .ref d_waits, .ref d_needs])), (r_left, .inl (kr_left, 49, .inl fr_left)), (d_needs, .inl (kd_needs, 1960, .inl fd_needs)), (r_size, .inl (kr_size, 8, .inl fr_size)), (r_pile, .inl (kr_pile, 392, .inl fr_pile)), (d_piles, .inl (kd_piles, 320, .inr (.inl fd_piles)))] sz) [(r, .inr (4, [dv, .ref r_came, .ref r_doneOn, .ref r_left, .ref r_key, .ref r_heardOn, .ref r_standing, .ref r_pile, .ref r_size, .ref r_firstOf, .ref r_nextOf, .ref r_done, .int r_doneCount, .int r_today, .long r_lot])), (d, .inr (0, [.ref d_piles, .ref d_idle, .ref d_waits, .ref d_needs])), (r_left, .inl (kr_left, 49, .inl fr_left)), (d_needs, .inl (kd_needs, 1960, .inl fd_needsz)), (r_size, .inl (kr_size, 8, .inl fr_size)), (r_pile, .inl (kr_pile, 392, .inl fr_pile)), (d_piles, .inl (kd_piles, 320, .inr (.inl fd_pilesz)))]) (va_A [(r, .inr (4, [dv, .ref r_came, .ref r_doneOn, .ref r_left, .ref r_key, .ref r_heardOn, .ref r_standing, .ref r_pile, .ref r_size, .ref r_firstOf, .ref r_nextOf, .ref r_done, .int r_doneCount, .int r_today, .long r_lot])), (d, .inr (0, [.ref d_piles, .ref d_idle, .ref d_waits, .ref d_needs])), (r_left, .inl (kr_left, 49, .inl fr_left)), (d_needs, .inl (kd_needs, 1960, .inl fd_needs)), (r_size, .inl (kr_size, 8, .inl fr_size)), (r_pile, .inl (kr_pile, 392, .inl fr_pile)), (d_piles, .inl (kd_piles, 320, .inr (.inl fd_piles)))] sz)) 0 0 (va_A [(r, .inr (4, [dv, .ref r_came, .ref r_doneOn, .ref r_left, .ref r_key, .ref r_heardOn, .ref r_standing, .ref r_pile, .ref r_size, .ref r_firstOf, .ref r_nextOf, .ref r_done, .int r_doneCount, .int r_today, .long r_lot])), (d, .inr (0, [.ref d_piles, .ref d_idle, .ref d_waits, .ref d_needs])), (r_left, .inl (kr_left, 49, .inl fr_left)), (d_needs, .inl (kd_needs, 1960, .inl fd_needs)), (r_size, .inl (kr_size, 8, .inl fr_size)), (r_pile, .inl (kr_pile, 392, .inl fr_pile)), (d_piles, .inl (kd_piles, 320, .inr (.inl fd_piles)))] sz) := by
  refine Met.ofW (cc := cX4_noteDay) (maxL := 6) (ret := none) (by decide) rfl ?_
  intro pr_ en_ s me_ args below meth c s₁ B hml hv
  obtain ⟨rfl, hsz, hP, hK, hD0⟩ := hv
  have hx := B.exec
  have hb := B.bytes
  have hr := B.returns
  have hts0 := atoms_spec (ws := (.code yX4_noteDay cX4_noteDay 6 none :: ALLW)) B.pre
  have hts := fun (w : Cond) (h : w ∈ ALLW) => hts0 w (List.mem_cons_of_mem _ h)
  have hown : s.vm.findClass RX4 = some me_.cls := findClass_of_methodNamed B.named
  have hlocks := B.notSynchronized
  subst hsz
  have hD := hD0.self (sz := s.heap.size)
  generalize hAe : va_A [(r, .inr (4, [dv, .ref r_came, .ref r_doneOn, .ref r_left, .ref r_key, .ref r_heardOn, .ref r_standing, .ref r_pile, .ref r_size, .ref r_firstOf, .ref r_nextOf, .ref r_done, .int r_doneCount, .int r_today, .long r_lot])), (d, .inr (0, [.ref d_piles, .ref d_idle, .ref d_waits, .ref d_needs])), (r_left, .inl (kr_left, 49, .inl fr_left)), (d_needs, .inl (kd_needs, 1960, .inl fd_needs)), (r_size, .inl (kr_size, 8, .inl fr_size)), (r_pile, .inl (kr_pile, 392, .inl fr_pile)), (d_piles, .inl (kd_piles, 320, .inr (.inl fd_piles)))] s.heap.size = A at hD ⊢
  have hA : ∀ q : Nat, s.heap.size ≤ q → A q := fun q h => by rw [← hAe]; exact Or.inr h
  have hS : va_S A s.heap s.heap [] := va_S.rf
  have hP : va_P (dC, dI) vwCl [(r, .inr (4, [dv, .ref r_came, .ref r_doneOn, .ref r_left, .ref r_key, .ref r_heardOn, .ref r_standing, .ref r_pile, .ref r_size, .ref r_firstOf, .ref r_nextOf, .ref r_done, .int r_doneCount, .int r_today, .long r_lot])), (d, .inr (0, [.ref d_piles, .ref d_idle, .ref d_waits, .ref d_needs])), (r_left, .inl (kr_left, 49, .inl fr_left)), (d_needs, .inl (kd_needs, 1960, .inl fd_needs)), (r_size, .inl (kr_size, 8, .inl fr_size)), (r_pile, .inl (kr_pile, 392, .inl fr_pile)), (d_piles, .inl (kd_piles, 320, .inr (.inl fd_piles)))] s.heap := hP
  have hl := lv_entry ([.ref r, .ref d]) (n := 6) (Nat.le_of_ble_eq_true rfl)
  rw [lg_entry_eq]
  generalize (lg_sl ([.ref r, .ref d]) ++ List.replicate (6 - (lg_sl ([.ref r, .ref d])).length) Slot.unset).toArray = ls at hl ⊢
  have hl : lv_has ls 6 [(0, .ref r), (1, .ref d)] := hl
  refine gQ (fun Q eQ => ?_)
  refine lv_aload_n hx hb dX4_noteDay_0 rfl (lv_at hl 0 rfl) ?_
  refine va_get (D := (dC, dI)) (ci := 4) (v := .ref r_left) (C := RX4) (T := TX4) (N := 15) hx hb hts inA4 hown hK hP 0 rfl rfl 3 (by decide) (hts _ w_118) (fun _ h9 => h9) rfl dX4_noteDay_1 ?_
  refine lv_iconst (v := 0) hx hb dX4_noteDay_4 (by decide) ?_
  refine lv_aload_n hx hb dX4_noteDay_5 rfl (lv_at hl 1 rfl) ?_
  refine va_get (D := (dC, dI)) (ci := 0) (v := .ref d_needs) (C := RX0) (T := TX0) (N := 4) hx hb hts inA0 hown hK hP 1 rfl rfl 3 (by decide) (hts _ w_675) (fun _ h9 => h9) rfl dX4_noteDay_6 ?_
  refine lv_aload_n hx hb dX4_noteDay_9 rfl (lv_at hl 0 rfl) ?_
  refine va_get (D := (dC, dI)) (ci := 4) (v := .int r_today) (C := RX4) (T := TX4) (N := 15) hx hb hts inA4 hown hK hP 0 rfl rfl 13 (by decide) (hts _ w_128) (fun _ h9 => h9) rfl dX4_noteDay_10 ?_
  refine lv_bipush (v := 49) hx hb dX4_noteDay_13 (by decide) ?_
  refine lv_imul hx hb dX4_noteDay_15 ?_
  refine lv_topi (fun x_1 ex_1 => ?_)
  have b_x_1 := q_mul (a := r_today.toInt) (b := 49) ex_1 rfl (by decide) (by omega) (by omega)
  refine lv_bipush (v := 49) hx hb dX4_noteDay_16 (by decide) ?_
  refine va_copyi hx hb (hml.trans hl.1.symm) hown (hts _ w_636) (hts _ w_390) (hts _ w_391) (hts _ w_392) hK hP hD hS 2 3 0 1 rfl rfl rfl rfl rfl (by decide) (q_nn (by omega)) (by decide) (by decide +kernel) (q_cp (a := x_1.toInt) (b := 49) rfl (by decide) (by omega) (by omega) (by omega)) (fun _ _ => rfl) (Nat.le_of_ble_eq_true rfl) (Nat.le_of_ble_eq_true rfl) dX4_noteDay_18 (fun H locs hP hD hS => ?_)
  generalize ef_2 : va_cpy fr_left fd_needs (0 : Int32).toNatClampNeg (x_1 : Int32).toNatClampNeg (49 : Int32).toNatClampNeg = f_2 at hP hD
  have hP : va_P (dC, dI) vwCl [(r, .inr (4, [dv, .ref r_came, .ref r_doneOn, .ref r_left, .ref r_key, .ref r_heardOn, .ref r_standing, .ref r_pile, .ref r_size, .ref r_firstOf, .ref r_nextOf, .ref r_done, .int r_doneCount, .int r_today, .long r_lot])), (d, .inr (0, [.ref d_piles, .ref d_idle, .ref d_waits, .ref d_needs])), (r_left, .inl (kr_left, 49, .inl fr_left)), (d_needs, .inl (kd_needs, 1960, .inl f_2)), (r_size, .inl (kr_size, 8, .inl fr_size)), (r_pile, .inl (kr_pile, 392, .inl fr_pile)), (d_piles, .inl (kd_piles, 320, .inr (.inl fd_piles)))] H := hP
  have hD : va_D A [(r, .inr (4, [dv, .ref r_came, .ref r_doneOn, .ref r_left, .ref r_key, .ref r_heardOn, .ref r_standing, .ref r_pile, .ref r_size, .ref r_firstOf, .ref r_nextOf, .ref r_done, .int r_doneCount, .int r_today, .long r_lot])), (d, .inr (0, [.ref d_piles, .ref d_idle, .ref d_waits, .ref d_needs])), (r_left, .inl (kr_left, 49, .inl fr_left)), (d_needs, .inl (kd_needs, 1960, .inl f_2)), (r_size, .inl (kr_size, 8, .inl fr_size)), (r_pile, .inl (kr_pile, 392, .inl fr_pile)), (d_piles, .inl (kd_piles, 320, .inr (.inl fd_piles)))] := hD
  refine lv_iconst (v := 0) hx hb dX4_noteDay_21 (by decide) ?_
  refine lv_istore_n (lv' := [(2, .int 0), (0, .ref r), (1, .ref d)]) hx hb dX4_noteDay_22 rfl hl (by decide) rfl (fun ls hl => ?_)
  have hL23_815 : ∀ (k : Nat) (v_118 : Int32) (f_119 : Nat → Int64) (H : Heap) (locs : List Loc) (ls : Array Slot), (8 - v_118.toInt).toNat < k → ((0) ≤ v_118.toInt ∧ v_118.toInt ≤ 8) → va_P (dC, dI) vwCl [(r, .inr (4, [dv, .ref r_came, .ref r_doneOn, .ref r_left, .ref r_key, .ref r_heardOn, .ref r_standing, .ref r_pile, .ref r_size, .ref r_firstOf, .ref r_nextOf, .ref r_done, .int r_doneCount, .int r_today, .long r_lot])), (d, .inr (0, [.ref d_piles, .ref d_idle, .ref d_waits, .ref d_needs])), (r_left, .inl (kr_left, 49, .inl fr_left)), (d_needs, .inl (kd_needs, 1960, .inl f_2)), (r_size, .inl (kr_size, 8, .inl fr_size)), (r_pile, .inl (kr_pile, 392, .inl fr_pile)), (d_piles, .inl (kd_piles, 320, .inr (.inl f_119)))] H → va_D A [(r, .inr (4, [dv, .ref r_came, .ref r_doneOn, .ref r_left, .ref r_key, .ref r_heardOn, .ref r_standing, .ref r_pile, .ref r_size, .ref r_firstOf, .ref r_nextOf, .ref r_done, .int r_doneCount, .int r_today, .long r_lot])), (d, .inr (0, [.ref d_piles, .ref d_idle, .ref d_waits, .ref d_needs])), (r_left, .inl (kr_left, 49, .inl fr_left)), (d_needs, .inl (kd_needs, 1960, .inl f_2)), (r_size, .inl (kr_size, 8, .inl fr_size)), (r_pile, .inl (kr_pile, 392, .inl fr_pile)), (d_piles, .inl (kd_piles, 320, .inr (.inl f_119)))] → va_S A s.heap H locs → lv_has ls 6 [(0, .ref r), (1, .ref d), (2, .int v_118)] → W pr_ l en_ ({ frames := 1, cells := 0, slots := 0, locals := 64 }) s me_ ([.ref r, .ref d]).toArray below meth c H locs 0 0 Q (F0 me_ 23 ls []) := by
    intro k
    induction k with
    | zero => intro v_118 f_119 H locs ls hmu; exact absurd hmu (Nat.not_lt_zero _)
    | succ k ih23_815 =>
      intro v_118 f_119 H locs ls hmu23 b_v_118 hP hD hS hl
      refine lv_iload_n hx hb dX4_noteDay_23 rfl (lv_at hl 2 rfl) ?_
      refine lv_bipush (v := 8) hx hb dX4_noteDay_24 (by decide) ?_
      refine lv_icmp_ge (tgt := 89) hx hb dX4_noteDay_26 (by decide) (fun c_816 => ?_) (fun c_816 => ?_)
      · have ec_816 := q_ge (a := v_118.toInt) (b := 8) rfl (by decide) c_816
        have hP9 := hP.sub (ws' := [(r, .inr (4, [dv, .ref r_came, .ref r_doneOn, .ref r_left, .ref r_key, .ref r_heardOn, .ref r_standing, .ref r_pile, .ref r_size, .ref r_firstOf, .ref r_nextOf, .ref r_done, .int r_doneCount, .int r_today, .long r_lot])), (d, .inr (0, [.ref d_piles, .ref d_idle, .ref d_waits, .ref d_needs])), (r_left, .inl (kr_left, 49, .inl fr_left)), (d_needs, .inl (kd_needs, 1960, .inl f_2)), (r_size, .inl (kr_size, 8, .inl fr_size)), (r_pile, .inl (kr_pile, 392, .inl fr_pile)), (d_piles, .inl (kd_piles, 320, .inr (.inl f_119)))]) [0, 1, 2, 3, 4, 5, 6] rfl
        have hD9 := hD.sub (ws' := [(r, .inr (4, [dv, .ref r_came, .ref r_doneOn, .ref r_left, .ref r_key, .ref r_heardOn, .ref r_standing, .ref r_pile, .ref r_size, .ref r_firstOf, .ref r_nextOf, .ref r_done, .int r_doneCount, .int r_today, .long r_lot])), (d, .inr (0, [.ref d_piles, .ref d_idle, .ref d_waits, .ref d_needs])), (r_left, .inl (kr_left, 49, .inl fr_left)), (d_needs, .inl (kd_needs, 1960, .inl f_2)), (r_size, .inl (kr_size, 8, .inl fr_size)), (r_pile, .inl (kr_pile, 392, .inl fr_pile)), (d_piles, .inl (kd_piles, 320, .inr (.inl f_119)))]) [0, 1, 2, 3, 4, 5, 6] (by decide) rfl
        have hK9 := hK.sub (tys' := []) [] rfl
        refine gQe eQ ?_
        exact W.vret hx hb hr (fun t9 ht hW => ⟨⟨(), rfl, trivial, f_2, f_119, by rw [ht]; exact hP9, va_K.moved hW.alike hK9, hD9⟩, hS.F ht⟩) hS.2.2 dX4_noteDay_89
      · have ec_816 := q_nge (a := v_118.toInt) (b := 8) rfl (by decide) c_816
        refine lv_lconst (v := 0) hx hb dX4_noteDay_29 (by decide) ?_
        refine lv_lstore_n (lv' := [(3, .long 0), (0, .ref r), (1, .ref d), (2, .int v_118)]) hx hb dX4_noteDay_30 rfl hl (by decide) rfl (fun ls hl => ?_)
        refine lv_iconst (v := 0) hx hb dX4_noteDay_31 (by decide) ?_
        refine lv_istore (lv' := [(5, .int 0), (3, .long 0), (0, .ref r), (1, .ref d), (2, .int v_118)]) hx hb dX4_noteDay_32 hl (by decide) rfl (fun ls hl => ?_)
        have hL34_921 : ∀ (k : Nat) (v_824 : Int64) (v_825 : Int32) (H : Heap) (locs : List Loc) (ls : Array Slot), (49 - v_825.toInt).toNat < k → ((0) ≤ v_825.toInt ∧ v_825.toInt ≤ 49) → va_P (dC, dI) vwCl [(r, .inr (4, [dv, .ref r_came, .ref r_doneOn, .ref r_left, .ref r_key, .ref r_heardOn, .ref r_standing, .ref r_pile, .ref r_size, .ref r_firstOf, .ref r_nextOf, .ref r_done, .int r_doneCount, .int r_today, .long r_lot])), (d, .inr (0, [.ref d_piles, .ref d_idle, .ref d_waits, .ref d_needs])), (r_left, .inl (kr_left, 49, .inl fr_left)), (d_needs, .inl (kd_needs, 1960, .inl f_2)), (r_size, .inl (kr_size, 8, .inl fr_size)), (r_pile, .inl (kr_pile, 392, .inl fr_pile)), (d_piles, .inl (kd_piles, 320, .inr (.inl f_119)))] H → va_D A [(r, .inr (4, [dv, .ref r_came, .ref r_doneOn, .ref r_left, .ref r_key, .ref r_heardOn, .ref r_standing, .ref r_pile, .ref r_size, .ref r_firstOf, .ref r_nextOf, .ref r_done, .int r_doneCount, .int r_today, .long r_lot])), (d, .inr (0, [.ref d_piles, .ref d_idle, .ref d_waits, .ref d_needs])), (r_left, .inl (kr_left, 49, .inl fr_left)), (d_needs, .inl (kd_needs, 1960, .inl f_2)), (r_size, .inl (kr_size, 8, .inl fr_size)), (r_pile, .inl (kr_pile, 392, .inl fr_pile)), (d_piles, .inl (kd_piles, 320, .inr (.inl f_119)))] → va_S A s.heap H locs → lv_has ls 6 [(0, .ref r), (1, .ref d), (2, .int v_118), (3, .long v_824), (5, .int v_825)] → W pr_ l en_ ({ frames := 1, cells := 0, slots := 0, locals := 64 }) s me_ ([.ref r, .ref d]).toArray below meth c H locs 0 0 Q (F0 me_ 34 ls []) := by
          intro k
          induction k with
          | zero => intro v_824 v_825 H locs ls hmu; exact absurd hmu (Nat.not_lt_zero _)
          | succ k ih34_921 =>
            intro v_824 v_825 H locs ls hmu34 b_v_825 hP hD hS hl
            refine lv_iload hx hb dX4_noteDay_34 (lv_at hl 4 rfl) ?_
            refine lv_aload_n hx hb dX4_noteDay_36 rfl (lv_at hl 0 rfl) ?_
            refine va_get (D := (dC, dI)) (ci := 4) (v := .ref r_size) (C := RX4) (T := TX4) (N := 15) hx hb hts inA4 hown hK hP 0 rfl rfl 8 (by decide) (hts _ w_123) (fun _ h9 => h9) rfl dX4_noteDay_37 ?_
            refine lv_iload_n hx hb dX4_noteDay_40 rfl (lv_at hl 2 rfl) ?_
            refine va_iald hx hb hK hP 4 2 rfl rfl (vp_in_iff.mpr ⟨by omega, by omega⟩) dX4_noteDay_41 ?_
            refine lv_topi (fun x_922 ex_922 => ?_)
            have b_x_922 := bd.at g_fr_size ex_922
            refine lv_icmp_ge (tgt := 68) hx hb dX4_noteDay_42 (by decide) (fun c_923 => ?_) (fun c_923 => ?_)
            · have ec_923 := q_ge (a := v_825.toInt) (b := x_922.toInt) rfl rfl c_923
              refine lv_aload_n hx hb dX4_noteDay_68 rfl (lv_at hl 1 rfl) ?_
              refine va_get (D := (dC, dI)) (ci := 0) (v := .ref d_piles) (C := RX0) (T := TX0) (N := 4) hx hb hts inA0 hown hK hP 1 rfl rfl 0 (by decide) (hts _ w_676) (fun _ h9 => h9) rfl dX4_noteDay_69 ?_
              refine lv_aload_n hx hb dX4_noteDay_72 rfl (lv_at hl 0 rfl) ?_
              refine va_get (D := (dC, dI)) (ci := 4) (v := .int r_today) (C := RX4) (T := TX4) (N := 15) hx hb hts inA4 hown hK hP 0 rfl rfl 13 (by decide) (hts _ w_128) (fun _ h9 => h9) rfl dX4_noteDay_73 ?_
              refine lv_bipush (v := 8) hx hb dX4_noteDay_76 (by decide) ?_
              refine lv_imul hx hb dX4_noteDay_78 ?_
              refine lv_topi (fun x_930 ex_930 => ?_)
              have b_x_930 := q_mul (a := r_today.toInt) (b := 8) ex_930 rfl (by decide) (by omega) (by omega)
              refine lv_iload_n hx hb dX4_noteDay_79 rfl (lv_at hl 2 rfl) ?_
              refine lv_iadd hx hb dX4_noteDay_80 ?_
              refine lv_topi (fun x_931 ex_931 => ?_)
              have b_x_931 := q_add (a := x_930.toInt) (b := v_118.toInt) ex_931 rfl rfl (by omega) (by omega)
              refine lv_lload_n hx hb dX4_noteDay_81 rfl (lv_at hl 3 rfl) ?_
              refine va_last hx hb hK hP hD hS 6 4 rfl rfl (vp_in_iff.mpr ⟨by omega, by omega⟩) dX4_noteDay_82 (fun H locs hP hD hS => ?_)
              generalize ef_932 : vp_updL f_119 (x_931 : Int32).toNatClampNeg v_824 = f_932 at hP hD
              have hP : va_P (dC, dI) vwCl [(r, .inr (4, [dv, .ref r_came, .ref r_doneOn, .ref r_left, .ref r_key, .ref r_heardOn, .ref r_standing, .ref r_pile, .ref r_size, .ref r_firstOf, .ref r_nextOf, .ref r_done, .int r_doneCount, .int r_today, .long r_lot])), (d, .inr (0, [.ref d_piles, .ref d_idle, .ref d_waits, .ref d_needs])), (r_left, .inl (kr_left, 49, .inl fr_left)), (d_needs, .inl (kd_needs, 1960, .inl f_2)), (r_size, .inl (kr_size, 8, .inl fr_size)), (r_pile, .inl (kr_pile, 392, .inl fr_pile)), (d_piles, .inl (kd_piles, 320, .inr (.inl f_932)))] H := hP
              have hD : va_D A [(r, .inr (4, [dv, .ref r_came, .ref r_doneOn, .ref r_left, .ref r_key, .ref r_heardOn, .ref r_standing, .ref r_pile, .ref r_size, .ref r_firstOf, .ref r_nextOf, .ref r_done, .int r_doneCount, .int r_today, .long r_lot])), (d, .inr (0, [.ref d_piles, .ref d_idle, .ref d_waits, .ref d_needs])), (r_left, .inl (kr_left, 49, .inl fr_left)), (d_needs, .inl (kd_needs, 1960, .inl f_2)), (r_size, .inl (kr_size, 8, .inl fr_size)), (r_pile, .inl (kr_pile, 392, .inl fr_pile)), (d_piles, .inl (kd_piles, 320, .inr (.inl f_932)))] := hD
              obtain ⟨y_933, ey_933⟩ : ∃ y : Int32, y = v_118 + Int32.ofInt (1) := ⟨_, rfl⟩
              have b_y_933 := q_add (a := v_118.toInt) (b := 1) ey_933 rfl (by decide) (by omega) (by omega)
              refine lv_iinc (v := y_933) (lv' := [(2, .int y_933), (0, .ref r), (1, .ref d), (3, .long v_824), (5, .int v_825)]) hx hb dX4_noteDay_83 hl (k := 2) rfl ey_933.symm (by decide) rfl (fun ls hl => ?_)
              refine lv_goto (tgt := 23) hx hb dX4_noteDay_86 (by decide) ?_
              have bq_934 : (0) ≤ y_933.toInt ∧ y_933.toInt ≤ 8 := ⟨by omega, by omega⟩
              exact ih23_815 y_933 f_932 H locs ls (by omega) bq_934 hP hD hS (lv_sub hl [1, 2, 0] rfl)
            · have ec_923 := q_nge (a := v_825.toInt) (b := x_922.toInt) rfl rfl c_923
              refine lv_lload_n hx hb dX4_noteDay_45 rfl (lv_at hl 3 rfl) ?_
              refine lv_lconst (v := 1) hx hb dX4_noteDay_46 (by decide) ?_
              refine lv_aload_n hx hb dX4_noteDay_47 rfl (lv_at hl 0 rfl) ?_
              refine va_get (D := (dC, dI)) (ci := 4) (v := .ref r_pile) (C := RX4) (T := TX4) (N := 15) hx hb hts inA4 hown hK hP 0 rfl rfl 7 (by decide) (hts _ w_122) (fun _ h9 => h9) rfl dX4_noteDay_48 ?_
              refine lv_iload_n hx hb dX4_noteDay_51 rfl (lv_at hl 2 rfl) ?_
              refine lv_bipush (v := 49) hx hb dX4_noteDay_52 (by decide) ?_
              refine lv_imul hx hb dX4_noteDay_54 ?_
              refine lv_topi (fun x_935 ex_935 => ?_)
              have b_x_935 := q_mul (a := v_118.toInt) (b := 49) ex_935 rfl (by decide) (by omega) (by omega)
              refine lv_iload hx hb dX4_noteDay_55 (lv_at hl 4 rfl) ?_
              refine lv_iadd hx hb dX4_noteDay_57 ?_
              refine lv_topi (fun x_936 ex_936 => ?_)
              have b_x_936 := q_add (a := x_935.toInt) (b := v_825.toInt) ex_936 rfl rfl (by omega) (by omega)
              refine va_iald hx hb hK hP 5 3 rfl rfl (vp_in_iff.mpr ⟨by omega, by omega⟩) dX4_noteDay_58 ?_
              refine lv_topi (fun x_937 ex_937 => ?_)
              have b_x_937 := bd.at g_fr_pile ex_937
              obtain ⟨y_938, ey_938⟩ : ∃ y : Int64, (1 : Int64) <<< ((x_937 : Int32).toInt64 &&& 63) = y := ⟨_, rfl⟩
              refine lv_lshl (v := y_938) hx hb dX4_noteDay_59 ey_938 ?_
              refine lv_lor hx hb dX4_noteDay_60 ?_
              refine lv_topl (fun x_939 ex_939 => ?_)
              refine lv_lstore_n (lv' := [(3, .long x_939), (0, .ref r), (1, .ref d), (2, .int v_118), (5, .int v_825)]) hx hb dX4_noteDay_61 rfl hl (by decide) rfl (fun ls hl => ?_)
              obtain ⟨y_940, ey_940⟩ : ∃ y : Int32, y = v_825 + Int32.ofInt (1) := ⟨_, rfl⟩
              have b_y_940 := q_add (a := v_825.toInt) (b := 1) ey_940 rfl (by decide) (by omega) (by omega)
              refine lv_iinc (v := y_940) (lv' := [(5, .int y_940), (3, .long x_939), (0, .ref r), (1, .ref d), (2, .int v_118)]) hx hb dX4_noteDay_62 hl (k := 4) rfl ey_940.symm (by decide) rfl (fun ls hl => ?_)
              refine lv_goto (tgt := 34) hx hb dX4_noteDay_65 (by decide) ?_
              have bq_941 : (0) ≤ y_940.toInt ∧ y_940.toInt ≤ 49 := ⟨by omega, by omega⟩
              exact ih34_921 x_939 y_940 H locs ls (by omega) bq_941 hP hD hS (lv_sub hl [2, 3, 4, 1, 0] rfl)
        exact hL34_921 _ 0 0 H locs ls (Nat.lt_succ_self _) ⟨by decide, by decide⟩ hP hD hS (lv_sub hl [2, 3, 4, 1, 0] rfl)
  exact hL23_815 _ 0 fd_piles H locs ls (Nat.lt_succ_self _) ⟨by decide, by decide⟩ hP hD hS (lv_sub hl [1, 2, 0] rfl)
