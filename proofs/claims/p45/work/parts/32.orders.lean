set_option maxHeartbeats 4000000 in
set_option maxRecDepth 100000 in
theorem o_swap (l : Launch) (dC : Nat → ClassId) (dI : Nat → Nat → Nat) (sz : Nat) (o : Nat) (a : Int32) (b : Int32) (o_letters : Nat) (o_tried : Nat) (o_best : Nat) (o_known : Int32) (o_weighed : Int32) (o_person : Int32) (o_day : Int32) (o_count : Int32) (o_most : Int32) (o_least : Int32) (ko_tried : ClassId) (fo_tried : Nat → Int32) (b_a : (0) ≤ a.toInt ∧ a.toInt ≤ 5) (b_b : (0) ≤ b.toInt ∧ b.toInt ≤ 5) (b_o_known : (0) ≤ o_known.toInt ∧ o_known.toInt ≤ 1) (b_o_weighed : (0) ≤ o_weighed.toInt ∧ o_weighed.toInt ≤ 1) (b_o_count : (0) ≤ o_count.toInt ∧ o_count.toInt ≤ 6) (g_fo_tried : bd (0) (23) fo_tried) : Met l yX1_swap (.code yX1_swap cX1_swap 4 none :: ALLW) ({ frames := 0, cells := 0, slots := 0, locals := 0 }) (va_Pc [.ref o, .int a, .int b] (fun U => U.heap.size = sz ∧ va_P (dC, dI) vwCl [(o, .inr (1, [.ref o_letters, .ref o_tried, .ref o_best, .int o_known, .int o_weighed, .int o_person, .int o_day, .int o_count, .int o_most, .int o_least])), (o_tried, .inl (ko_tried, 6, .inl fo_tried))] U.heap ∧ va_K (dC, dI) vwCl [(ko_tried, .int)] U ∧ va_D (fun _ => True) [(o, .inr (1, [.ref o_letters, .ref o_tried, .ref o_best, .int o_known, .int o_weighed, .int o_person, .int o_day, .int o_count, .int o_most, .int o_least])), (o_tried, .inl (ko_tried, 6, .inl fo_tried))])) (va_Qv (fun _ : Unit => True) (fun (_ : Unit) (t9 : State) => ∃ (fo_triedz : Nat → Int32), (bd (0) (23) fo_triedz) ∧ va_P (dC, dI) vwCl [(o, .inr (1, [.ref o_letters, .ref o_tried, .ref o_best, .int o_known, .int o_weighed, .int o_person, .int o_day, .int o_count, .int o_most, .int o_least])), (o_tried, .inl (ko_tried, 6, .inl fo_triedz))] t9.heap ∧ va_K (dC, dI) vwCl [] t9 ∧ va_D (va_A [(o, .inr (1, [.ref o_letters, .ref o_tried, .ref o_best, .int o_known, .int o_weighed, .int o_person, .int o_day, .int o_count, .int o_most, .int o_least])), (o_tried, .inl (ko_tried, 6, .inl fo_tried))] sz) [(o, .inr (1, [.ref o_letters, .ref o_tried, .ref o_best, .int o_known, .int o_weighed, .int o_person, .int o_day, .int o_count, .int o_most, .int o_least])), (o_tried, .inl (ko_tried, 6, .inl fo_triedz))]) (va_A [(o, .inr (1, [.ref o_letters, .ref o_tried, .ref o_best, .int o_known, .int o_weighed, .int o_person, .int o_day, .int o_count, .int o_most, .int o_least])), (o_tried, .inl (ko_tried, 6, .inl fo_tried))] sz)) 0 0 (va_A [(o, .inr (1, [.ref o_letters, .ref o_tried, .ref o_best, .int o_known, .int o_weighed, .int o_person, .int o_day, .int o_count, .int o_most, .int o_least])), (o_tried, .inl (ko_tried, 6, .inl fo_tried))] sz) := by
  refine Met.ofW (cc := cX1_swap) (maxL := 4) (ret := none) (by decide) rfl ?_
  intro pr_ en_ s me_ args below meth c s₁ B hml hv
  obtain ⟨rfl, hsz, hP, hK, hD0⟩ := hv
  have hx := B.exec
  have hb := B.bytes
  have hr := B.returns
  have hts0 := atoms_spec (ws := (.code yX1_swap cX1_swap 4 none :: ALLW)) B.pre
  have hts := fun (w : Cond) (h : w ∈ ALLW) => hts0 w (List.mem_cons_of_mem _ h)
  have hown : s.vm.findClass RX1 = some me_.cls := findClass_of_methodNamed B.named
  have hlocks := B.notSynchronized
  subst hsz
  have hD := hD0.self (sz := s.heap.size)
  generalize hAe : va_A [(o, .inr (1, [.ref o_letters, .ref o_tried, .ref o_best, .int o_known, .int o_weighed, .int o_person, .int o_day, .int o_count, .int o_most, .int o_least])), (o_tried, .inl (ko_tried, 6, .inl fo_tried))] s.heap.size = A at hD ⊢
  have hA : ∀ q : Nat, s.heap.size ≤ q → A q := fun q h => by rw [← hAe]; exact Or.inr h
  have hS : va_S A s.heap s.heap [] := va_S.rf
  have hP : va_P (dC, dI) vwCl [(o, .inr (1, [.ref o_letters, .ref o_tried, .ref o_best, .int o_known, .int o_weighed, .int o_person, .int o_day, .int o_count, .int o_most, .int o_least])), (o_tried, .inl (ko_tried, 6, .inl fo_tried))] s.heap := hP
  have hl := lv_entry ([.ref o, .int a, .int b]) (n := 4) (Nat.le_of_ble_eq_true rfl)
  rw [lg_entry_eq]
  generalize (lg_sl ([.ref o, .int a, .int b]) ++ List.replicate (4 - (lg_sl ([.ref o, .int a, .int b])).length) Slot.unset).toArray = ls at hl ⊢
  have hl : lv_has ls 4 [(0, .ref o), (1, .int a), (2, .int b)] := hl
  refine gQ (fun Q eQ => ?_)
  refine lv_aload_n hx hb dX1_swap_0 rfl (lv_at hl 0 rfl) ?_
  refine va_get (D := (dC, dI)) (ci := 1) (v := .ref o_tried) (C := RX1) (T := TX1) (N := 10) hx hb hts inA1 hown hK hP 0 rfl rfl 1 (by decide) (hts _ w_147) (fun _ h9 => h9) rfl dX1_swap_1 ?_
  refine lv_iload_n hx hb dX1_swap_4 rfl (lv_at hl 1 rfl) ?_
  refine va_iald hx hb hK hP 1 0 rfl rfl (vp_in_iff.mpr ⟨Int.le_trans (by decide) b_a.1, Int.lt_of_le_of_lt b_a.2 (by decide)⟩) dX1_swap_5 ?_
  refine lv_topi (fun x_1 ex_1 => ?_)
  have b_x_1 := bd.at g_fo_tried ex_1
  refine lv_istore_n (lv' := [(3, .int x_1), (0, .ref o), (1, .int a), (2, .int b)]) hx hb dX1_swap_6 rfl hl (by decide) rfl (fun ls hl => ?_)
  refine lv_aload_n hx hb dX1_swap_7 rfl (lv_at hl 1 rfl) ?_
  refine va_get (D := (dC, dI)) (ci := 1) (v := .ref o_tried) (C := RX1) (T := TX1) (N := 10) hx hb hts inA1 hown hK hP 0 rfl rfl 1 (by decide) (hts _ w_147) (fun _ h9 => h9) rfl dX1_swap_8 ?_
  refine lv_iload_n hx hb dX1_swap_11 rfl (lv_at hl 2 rfl) ?_
  refine lv_aload_n hx hb dX1_swap_12 rfl (lv_at hl 1 rfl) ?_
  refine va_get (D := (dC, dI)) (ci := 1) (v := .ref o_tried) (C := RX1) (T := TX1) (N := 10) hx hb hts inA1 hown hK hP 0 rfl rfl 1 (by decide) (hts _ w_147) (fun _ h9 => h9) rfl dX1_swap_13 ?_
  refine lv_iload_n hx hb dX1_swap_16 rfl (lv_at hl 3 rfl) ?_
  refine va_iald hx hb hK hP 1 0 rfl rfl (vp_in_iff.mpr ⟨Int.le_trans (by decide) b_b.1, Int.lt_of_le_of_lt b_b.2 (by decide)⟩) dX1_swap_17 ?_
  refine lv_topi (fun x_2 ex_2 => ?_)
  have b_x_2 := bd.at g_fo_tried ex_2
  refine va_iast hx hb hK hP hD hS 1 0 rfl rfl (vp_in_iff.mpr ⟨Int.le_trans (by decide) b_a.1, Int.lt_of_le_of_lt b_a.2 (by decide)⟩) dX1_swap_18 (fun H locs hP hD hS => ?_)
  have g_f_3 := bd_upd (k := (a : Int32).toNatClampNeg) (x := x_2) (a := x_2.toInt) g_fo_tried rfl (by omega) (by omega)
  generalize ef_3 : upd fo_tried (a : Int32).toNatClampNeg x_2 = f_3 at hP hD g_f_3
  have hP : va_P (dC, dI) vwCl [(o, .inr (1, [.ref o_letters, .ref o_tried, .ref o_best, .int o_known, .int o_weighed, .int o_person, .int o_day, .int o_count, .int o_most, .int o_least])), (o_tried, .inl (ko_tried, 6, .inl f_3))] H := hP
  have hD : va_D A [(o, .inr (1, [.ref o_letters, .ref o_tried, .ref o_best, .int o_known, .int o_weighed, .int o_person, .int o_day, .int o_count, .int o_most, .int o_least])), (o_tried, .inl (ko_tried, 6, .inl f_3))] := hD
  refine lv_aload_n hx hb dX1_swap_19 rfl (lv_at hl 1 rfl) ?_
  refine va_get (D := (dC, dI)) (ci := 1) (v := .ref o_tried) (C := RX1) (T := TX1) (N := 10) hx hb hts inA1 hown hK hP 0 rfl rfl 1 (by decide) (hts _ w_147) (fun _ h9 => h9) rfl dX1_swap_20 ?_
  refine lv_iload_n hx hb dX1_swap_23 rfl (lv_at hl 3 rfl) ?_
  refine lv_iload_n hx hb dX1_swap_24 rfl (lv_at hl 0 rfl) ?_
  refine va_iast hx hb hK hP hD hS 1 0 rfl rfl (vp_in_iff.mpr ⟨Int.le_trans (by decide) b_b.1, Int.lt_of_le_of_lt b_b.2 (by decide)⟩) dX1_swap_25 (fun H locs hP hD hS => ?_)
  have g_f_4 := bd_upd (k := (b : Int32).toNatClampNeg) (x := x_1) (a := x_1.toInt) g_f_3 rfl (by omega) (by omega)
  generalize ef_4 : upd f_3 (b : Int32).toNatClampNeg x_1 = f_4 at hP hD g_f_4
  have hP : va_P (dC, dI) vwCl [(o, .inr (1, [.ref o_letters, .ref o_tried, .ref o_best, .int o_known, .int o_weighed, .int o_person, .int o_day, .int o_count, .int o_most, .int o_least])), (o_tried, .inl (ko_tried, 6, .inl f_4))] H := hP
  have hD : va_D A [(o, .inr (1, [.ref o_letters, .ref o_tried, .ref o_best, .int o_known, .int o_weighed, .int o_person, .int o_day, .int o_count, .int o_most, .int o_least])), (o_tried, .inl (ko_tried, 6, .inl f_4))] := hD
  have hP9 := hP.sub (ws' := [(o, .inr (1, [.ref o_letters, .ref o_tried, .ref o_best, .int o_known, .int o_weighed, .int o_person, .int o_day, .int o_count, .int o_most, .int o_least])), (o_tried, .inl (ko_tried, 6, .inl f_4))]) [0, 1] rfl
  have hD9 := hD.sub (ws' := [(o, .inr (1, [.ref o_letters, .ref o_tried, .ref o_best, .int o_known, .int o_weighed, .int o_person, .int o_day, .int o_count, .int o_most, .int o_least])), (o_tried, .inl (ko_tried, 6, .inl f_4))]) [0, 1] (by decide) rfl
  have hK9 := hK.sub (tys' := []) [] rfl
  refine gQe eQ ?_
  exact W.vret hx hb hr (fun t9 ht hW => ⟨⟨(), rfl, trivial, f_4, g_f_4, by rw [ht]; exact hP9, va_K.moved hW.alike hK9, hD9⟩, hS.F ht⟩) hS.2.2 dX1_swap_26
set_option maxHeartbeats 4000000 in
set_option maxRecDepth 100000 in
theorem o_gather (l : Launch) (dC : Nat → ClassId) (dI : Nat → Nat → Nat) (sz : Nat) (o : Nat) (t : Nat) (a : Int32) (b : Int32) (o_letters : Nat) (o_tried : Nat) (o_best : Nat) (o_known : Int32) (o_weighed : Int32) (o_person : Int32) (o_day : Int32) (o_count : Int32) (o_most : Int32) (o_least : Int32) (t_days : Int32) (t_post : Int32) (t_law : Int32) (t_seed : Int32) (t_lines : Int32) (t_people : Int32) (t_letters : Int32) (t_lawTold : Int32) (t_hours : Nat) (t_kind : Nat) (t_master : Nat) (t_from : Nat) (t_to : Nat) (t_on : Nat) (t_told : Nat) (t_after : Nat) (t_worth : Nat) (t_by : Nat) (kt_to : ClassId) (ft_to : Nat → Int32) (kt_on : ClassId) (ft_on : Nat → Int32) (ko_letters : ClassId) (fo_letters : Nat → Int32) (ko_tried : ClassId) (fo_tried : Nat → Int32) (b_o_known : (0) ≤ o_known.toInt ∧ o_known.toInt ≤ 1) (b_o_weighed : (0) ≤ o_weighed.toInt ∧ o_weighed.toInt ≤ 1) (b_o_count : (0) ≤ o_count.toInt ∧ o_count.toInt ≤ 6) (b_t_days : (0) ≤ t_days.toInt ∧ t_days.toInt ≤ 40) (b_t_post : (0) ≤ t_post.toInt ∧ t_post.toInt ≤ 9) (b_t_law : (0) ≤ t_law.toInt ∧ t_law.toInt ≤ 3) (b_t_people : (0) ≤ t_people.toInt ∧ t_people.toInt ≤ 8) (b_t_letters : (0) ≤ t_letters.toInt ∧ t_letters.toInt ≤ 24) (b_t_lawTold : (0) ≤ t_lawTold.toInt ∧ t_lawTold.toInt ≤ 1) (g_ft_to : bd (0) (7) ft_to) (g_fo_tried : bd (0) (23) fo_tried) : Met l yX1_gather (.code yX1_gather cX1_gather 5 (some .boolean) :: ALLW) ({ frames := 0, cells := 0, slots := 0, locals := 0 }) (va_Pc [.ref o, .ref t, .int a, .int b] (fun U => U.heap.size = sz ∧ va_P (dC, dI) vwCl [(o, .inr (1, [.ref o_letters, .ref o_tried, .ref o_best, .int o_known, .int o_weighed, .int o_person, .int o_day, .int o_count, .int o_most, .int o_least])), (t, .inr (7, [.int t_days, .int t_post, .int t_law, .int t_seed, .int t_lines, .int t_people, .int t_letters, .int t_lawTold, .ref t_hours, .ref t_kind, .ref t_master, .ref t_from, .ref t_to, .ref t_on, .ref t_told, .ref t_after, .ref t_worth, .ref t_by])), (t_to, .inl (kt_to, 49, .inl ft_to)), (t_on, .inl (kt_on, 49, .inl ft_on)), (o_letters, .inl (ko_letters, 6, .inl fo_letters)), (o_tried, .inl (ko_tried, 6, .inl fo_tried))] U.heap ∧ va_K (dC, dI) vwCl [(kt_to, .int), (kt_on, .int), (ko_letters, .int), (ko_tried, .int)] U ∧ va_D (fun _ => True) [(o, .inr (1, [.ref o_letters, .ref o_tried, .ref o_best, .int o_known, .int o_weighed, .int o_person, .int o_day, .int o_count, .int o_most, .int o_least])), (t, .inr (7, [.int t_days, .int t_post, .int t_law, .int t_seed, .int t_lines, .int t_people, .int t_letters, .int t_lawTold, .ref t_hours, .ref t_kind, .ref t_master, .ref t_from, .ref t_to, .ref t_on, .ref t_told, .ref t_after, .ref t_worth, .ref t_by])), (t_to, .inl (kt_to, 49, .inl ft_to)), (t_on, .inl (kt_on, 49, .inl ft_on)), (o_letters, .inl (ko_letters, 6, .inl fo_letters)), (o_tried, .inl (ko_tried, 6, .inl fo_tried))])) (va_Qi (fun (r u : Int32) => r = u) (fun (u : Int32) (t9 : State) => ∃ (o_weighedz : Int32) (o_personz : Int32) (o_dayz : Int32) (o_countz : Int32) (fo_lettersz : Nat → Int32) (fo_triedz : Nat → Int32), ((0) ≤ o_weighedz.toInt ∧ o_weighedz.toInt ≤ 1) ∧ ((0) ≤ o_countz.toInt ∧ o_countz.toInt ≤ 6) ∧ (bd (0) (23) fo_triedz) ∧ ((0) ≤ u.toInt ∧ u.toInt ≤ 1) ∧ va_P (dC, dI) vwCl [(o, .inr (1, [.ref o_letters, .ref o_tried, .ref o_best, .int o_known, .int o_weighedz, .int o_personz, .int o_dayz, .int o_countz, .int o_most, .int o_least])), (t, .inr (7, [.int t_days, .int t_post, .int t_law, .int t_seed, .int t_lines, .int t_people, .int t_letters, .int t_lawTold, .ref t_hours, .ref t_kind, .ref t_master, .ref t_from, .ref t_to, .ref t_on, .ref t_told, .ref t_after, .ref t_worth, .ref t_by])), (t_to, .inl (kt_to, 49, .inl ft_to)), (t_on, .inl (kt_on, 49, .inl ft_on)), (o_letters, .inl (ko_letters, 6, .inl fo_lettersz)), (o_tried, .inl (ko_tried, 6, .inl fo_triedz))] t9.heap ∧ va_K (dC, dI) vwCl [] t9 ∧ va_D (va_A [(o, .inr (1, [.ref o_letters, .ref o_tried, .ref o_best, .int o_known, .int o_weighed, .int o_person, .int o_day, .int o_count, .int o_most, .int o_least])), (t, .inr (7, [.int t_days, .int t_post, .int t_law, .int t_seed, .int t_lines, .int t_people, .int t_letters, .int t_lawTold, .ref t_hours, .ref t_kind, .ref t_master, .ref t_from, .ref t_to, .ref t_on, .ref t_told, .ref t_after, .ref t_worth, .ref t_by])), (t_to, .inl (kt_to, 49, .inl ft_to)), (t_on, .inl (kt_on, 49, .inl ft_on)), (o_letters, .inl (ko_letters, 6, .inl fo_letters)), (o_tried, .inl (ko_tried, 6, .inl fo_tried))] sz) [(o, .inr (1, [.ref o_letters, .ref o_tried, .ref o_best, .int o_known, .int o_weighedz, .int o_personz, .int o_dayz, .int o_countz, .int o_most, .int o_least])), (t, .inr (7, [.int t_days, .int t_post, .int t_law, .int t_seed, .int t_lines, .int t_people, .int t_letters, .int t_lawTold, .ref t_hours, .ref t_kind, .ref t_master, .ref t_from, .ref t_to, .ref t_on, .ref t_told, .ref t_after, .ref t_worth, .ref t_by])), (t_to, .inl (kt_to, 49, .inl ft_to)), (t_on, .inl (kt_on, 49, .inl ft_on)), (o_letters, .inl (ko_letters, 6, .inl fo_lettersz)), (o_tried, .inl (ko_tried, 6, .inl fo_triedz))]) (va_A [(o, .inr (1, [.ref o_letters, .ref o_tried, .ref o_best, .int o_known, .int o_weighed, .int o_person, .int o_day, .int o_count, .int o_most, .int o_least])), (t, .inr (7, [.int t_days, .int t_post, .int t_law, .int t_seed, .int t_lines, .int t_people, .int t_letters, .int t_lawTold, .ref t_hours, .ref t_kind, .ref t_master, .ref t_from, .ref t_to, .ref t_on, .ref t_told, .ref t_after, .ref t_worth, .ref t_by])), (t_to, .inl (kt_to, 49, .inl ft_to)), (t_on, .inl (kt_on, 49, .inl ft_on)), (o_letters, .inl (ko_letters, 6, .inl fo_letters)), (o_tried, .inl (ko_tried, 6, .inl fo_tried))] sz)) 0 0 (va_A [(o, .inr (1, [.ref o_letters, .ref o_tried, .ref o_best, .int o_known, .int o_weighed, .int o_person, .int o_day, .int o_count, .int o_most, .int o_least])), (t, .inr (7, [.int t_days, .int t_post, .int t_law, .int t_seed, .int t_lines, .int t_people, .int t_letters, .int t_lawTold, .ref t_hours, .ref t_kind, .ref t_master, .ref t_from, .ref t_to, .ref t_on, .ref t_told, .ref t_after, .ref t_worth, .ref t_by])), (t_to, .inl (kt_to, 49, .inl ft_to)), (t_on, .inl (kt_on, 49, .inl ft_on)), (o_letters, .inl (ko_letters, 6, .inl fo_letters)), (o_tried, .inl (ko_tried, 6, .inl fo_tried))] sz) := by
  refine Met.ofW (cc := cX1_gather) (maxL := 5) (ret := (some .boolean)) (by decide) rfl ?_
  intro pr_ en_ s me_ args below meth c s₁ B hml hv
  obtain ⟨rfl, hsz, hP, hK, hD0⟩ := hv
  have hx := B.exec
  have hb := B.bytes
  have hr := B.returns
  have hts0 := atoms_spec (ws := (.code yX1_gather cX1_gather 5 (some .boolean) :: ALLW)) B.pre
  have hts := fun (w : Cond) (h : w ∈ ALLW) => hts0 w (List.mem_cons_of_mem _ h)
  have hown : s.vm.findClass RX1 = some me_.cls := findClass_of_methodNamed B.named
  have hlocks := B.notSynchronized
  subst hsz
  have hD := hD0.self (sz := s.heap.size)
  generalize hAe : va_A [(o, .inr (1, [.ref o_letters, .ref o_tried, .ref o_best, .int o_known, .int o_weighed, .int o_person, .int o_day, .int o_count, .int o_most, .int o_least])), (t, .inr (7, [.int t_days, .int t_post, .int t_law, .int t_seed, .int t_lines, .int t_people, .int t_letters, .int t_lawTold, .ref t_hours, .ref t_kind, .ref t_master, .ref t_from, .ref t_to, .ref t_on, .ref t_told, .ref t_after, .ref t_worth, .ref t_by])), (t_to, .inl (kt_to, 49, .inl ft_to)), (t_on, .inl (kt_on, 49, .inl ft_on)), (o_letters, .inl (ko_letters, 6, .inl fo_letters)), (o_tried, .inl (ko_tried, 6, .inl fo_tried))] s.heap.size = A at hD ⊢
  have hA : ∀ q : Nat, s.heap.size ≤ q → A q := fun q h => by rw [← hAe]; exact Or.inr h
  have hS : va_S A s.heap s.heap [] := va_S.rf
  have hP : va_P (dC, dI) vwCl [(o, .inr (1, [.ref o_letters, .ref o_tried, .ref o_best, .int o_known, .int o_weighed, .int o_person, .int o_day, .int o_count, .int o_most, .int o_least])), (t, .inr (7, [.int t_days, .int t_post, .int t_law, .int t_seed, .int t_lines, .int t_people, .int t_letters, .int t_lawTold, .ref t_hours, .ref t_kind, .ref t_master, .ref t_from, .ref t_to, .ref t_on, .ref t_told, .ref t_after, .ref t_worth, .ref t_by])), (t_to, .inl (kt_to, 49, .inl ft_to)), (t_on, .inl (kt_on, 49, .inl ft_on)), (o_letters, .inl (ko_letters, 6, .inl fo_letters)), (o_tried, .inl (ko_tried, 6, .inl fo_tried))] s.heap := hP
  have hl := lv_entry ([.ref o, .ref t, .int a, .int b]) (n := 5) (Nat.le_of_ble_eq_true rfl)
  rw [lg_entry_eq]
  generalize (lg_sl ([.ref o, .ref t, .int a, .int b]) ++ List.replicate (5 - (lg_sl ([.ref o, .ref t, .int a, .int b])).length) Slot.unset).toArray = ls at hl ⊢
  have hl : lv_has ls 5 [(0, .ref o), (1, .ref t), (2, .int a), (3, .int b)] := hl
  refine gQ (fun Q eQ => ?_)
  replace b_o_known : hid ((0) ≤ o_known.toInt ∧ o_known.toInt ≤ 1) := b_o_known
  replace b_o_weighed : hid ((0) ≤ o_weighed.toInt ∧ o_weighed.toInt ≤ 1) := b_o_weighed
  replace b_o_count : hid ((0) ≤ o_count.toInt ∧ o_count.toInt ≤ 6) := b_o_count
  replace b_t_days : hid ((0) ≤ t_days.toInt ∧ t_days.toInt ≤ 40) := b_t_days
  replace b_t_post : hid ((0) ≤ t_post.toInt ∧ t_post.toInt ≤ 9) := b_t_post
  replace b_t_law : hid ((0) ≤ t_law.toInt ∧ t_law.toInt ≤ 3) := b_t_law
  replace b_t_people : hid ((0) ≤ t_people.toInt ∧ t_people.toInt ≤ 8) := b_t_people
  replace b_t_letters : hid ((0) ≤ t_letters.toInt ∧ t_letters.toInt ≤ 24) := b_t_letters
  replace b_t_lawTold : hid ((0) ≤ t_lawTold.toInt ∧ t_lawTold.toInt ≤ 1) := b_t_lawTold
  refine lv_aload_n hx hb dX1_gather_0 rfl (lv_at hl 0 rfl) ?_
  refine lv_iload_n hx hb dX1_gather_1 rfl (lv_at hl 2 rfl) ?_
  refine va_put (D := (dC, dI)) (ci := 1) (v := .int a) (ty := tyX1 5) (C := RX1) (T := TX1) (N := 10) hx hb hts inA1 tyX1 tyX1_ok nmX1 hown hK hP hD hS 0 rfl rfl 5 (by decide) (hts _ w_151) (fun _ h9 => h9) rfl (tyX1_ok 5 (by decide)) rfl rfl (Nat.le_of_ble_eq_true rfl) dX1_gather_2 (fun H locs hP hD hS => ?_)
  have hP : va_P (dC, dI) vwCl [(o, .inr (1, [.ref o_letters, .ref o_tried, .ref o_best, .int o_known, .int o_weighed, .int a, .int o_day, .int o_count, .int o_most, .int o_least])), (t, .inr (7, [.int t_days, .int t_post, .int t_law, .int t_seed, .int t_lines, .int t_people, .int t_letters, .int t_lawTold, .ref t_hours, .ref t_kind, .ref t_master, .ref t_from, .ref t_to, .ref t_on, .ref t_told, .ref t_after, .ref t_worth, .ref t_by])), (t_to, .inl (kt_to, 49, .inl ft_to)), (t_on, .inl (kt_on, 49, .inl ft_on)), (o_letters, .inl (ko_letters, 6, .inl fo_letters)), (o_tried, .inl (ko_tried, 6, .inl fo_tried))] H := hP
  have hD : va_D A [(o, .inr (1, [.ref o_letters, .ref o_tried, .ref o_best, .int o_known, .int o_weighed, .int a, .int o_day, .int o_count, .int o_most, .int o_least])), (t, .inr (7, [.int t_days, .int t_post, .int t_law, .int t_seed, .int t_lines, .int t_people, .int t_letters, .int t_lawTold, .ref t_hours, .ref t_kind, .ref t_master, .ref t_from, .ref t_to, .ref t_on, .ref t_told, .ref t_after, .ref t_worth, .ref t_by])), (t_to, .inl (kt_to, 49, .inl ft_to)), (t_on, .inl (kt_on, 49, .inl ft_on)), (o_letters, .inl (ko_letters, 6, .inl fo_letters)), (o_tried, .inl (ko_tried, 6, .inl fo_tried))] := hD
  refine lv_aload_n hx hb dX1_gather_5 rfl (lv_at hl 0 rfl) ?_
  refine lv_iload_n hx hb dX1_gather_6 rfl (lv_at hl 3 rfl) ?_
  refine va_put (D := (dC, dI)) (ci := 1) (v := .int b) (ty := tyX1 6) (C := RX1) (T := TX1) (N := 10) hx hb hts inA1 tyX1 tyX1_ok nmX1 hown hK hP hD hS 0 rfl rfl 6 (by decide) (hts _ w_152) (fun _ h9 => h9) rfl (tyX1_ok 6 (by decide)) rfl rfl (Nat.le_of_ble_eq_true rfl) dX1_gather_7 (fun H locs hP hD hS => ?_)
  have hP : va_P (dC, dI) vwCl [(o, .inr (1, [.ref o_letters, .ref o_tried, .ref o_best, .int o_known, .int o_weighed, .int a, .int b, .int o_count, .int o_most, .int o_least])), (t, .inr (7, [.int t_days, .int t_post, .int t_law, .int t_seed, .int t_lines, .int t_people, .int t_letters, .int t_lawTold, .ref t_hours, .ref t_kind, .ref t_master, .ref t_from, .ref t_to, .ref t_on, .ref t_told, .ref t_after, .ref t_worth, .ref t_by])), (t_to, .inl (kt_to, 49, .inl ft_to)), (t_on, .inl (kt_on, 49, .inl ft_on)), (o_letters, .inl (ko_letters, 6, .inl fo_letters)), (o_tried, .inl (ko_tried, 6, .inl fo_tried))] H := hP
  have hD : va_D A [(o, .inr (1, [.ref o_letters, .ref o_tried, .ref o_best, .int o_known, .int o_weighed, .int a, .int b, .int o_count, .int o_most, .int o_least])), (t, .inr (7, [.int t_days, .int t_post, .int t_law, .int t_seed, .int t_lines, .int t_people, .int t_letters, .int t_lawTold, .ref t_hours, .ref t_kind, .ref t_master, .ref t_from, .ref t_to, .ref t_on, .ref t_told, .ref t_after, .ref t_worth, .ref t_by])), (t_to, .inl (kt_to, 49, .inl ft_to)), (t_on, .inl (kt_on, 49, .inl ft_on)), (o_letters, .inl (ko_letters, 6, .inl fo_letters)), (o_tried, .inl (ko_tried, 6, .inl fo_tried))] := hD
  refine lv_aload_n hx hb dX1_gather_10 rfl (lv_at hl 0 rfl) ?_
  refine lv_iconst (v := 0) hx hb dX1_gather_11 (by decide) ?_
  refine va_put (D := (dC, dI)) (ci := 1) (v := .int 0) (ty := tyX1 7) (C := RX1) (T := TX1) (N := 10) hx hb hts inA1 tyX1 tyX1_ok nmX1 hown hK hP hD hS 0 rfl rfl 7 (by decide) (hts _ w_153) (fun _ h9 => h9) rfl (tyX1_ok 7 (by decide)) rfl rfl (Nat.le_of_ble_eq_true rfl) dX1_gather_12 (fun H locs hP hD hS => ?_)
  have hP : va_P (dC, dI) vwCl [(o, .inr (1, [.ref o_letters, .ref o_tried, .ref o_best, .int o_known, .int o_weighed, .int a, .int b, .int 0, .int o_most, .int o_least])), (t, .inr (7, [.int t_days, .int t_post, .int t_law, .int t_seed, .int t_lines, .int t_people, .int t_letters, .int t_lawTold, .ref t_hours, .ref t_kind, .ref t_master, .ref t_from, .ref t_to, .ref t_on, .ref t_told, .ref t_after, .ref t_worth, .ref t_by])), (t_to, .inl (kt_to, 49, .inl ft_to)), (t_on, .inl (kt_on, 49, .inl ft_on)), (o_letters, .inl (ko_letters, 6, .inl fo_letters)), (o_tried, .inl (ko_tried, 6, .inl fo_tried))] H := hP
  have hD : va_D A [(o, .inr (1, [.ref o_letters, .ref o_tried, .ref o_best, .int o_known, .int o_weighed, .int a, .int b, .int 0, .int o_most, .int o_least])), (t, .inr (7, [.int t_days, .int t_post, .int t_law, .int t_seed, .int t_lines, .int t_people, .int t_letters, .int t_lawTold, .ref t_hours, .ref t_kind, .ref t_master, .ref t_from, .ref t_to, .ref t_on, .ref t_told, .ref t_after, .ref t_worth, .ref t_by])), (t_to, .inl (kt_to, 49, .inl ft_to)), (t_on, .inl (kt_on, 49, .inl ft_on)), (o_letters, .inl (ko_letters, 6, .inl fo_letters)), (o_tried, .inl (ko_tried, 6, .inl fo_tried))] := hD
  refine lv_aload_n hx hb dX1_gather_15 rfl (lv_at hl 0 rfl) ?_
  refine lv_iconst (v := 0) hx hb dX1_gather_16 (by decide) ?_
  refine va_put (D := (dC, dI)) (ci := 1) (v := .int 0) (ty := tyX1 4) (C := RX1) (T := TX1) (N := 10) hx hb hts inA1 tyX1 tyX1_ok nmX1 hown hK hP hD hS 0 rfl rfl 4 (by decide) (hts _ w_150) (fun _ h9 => h9) rfl (tyX1_ok 4 (by decide)) (by decide) (by decide) (Nat.le_of_ble_eq_true rfl) dX1_gather_17 (fun H locs hP hD hS => ?_)
  have hP : va_P (dC, dI) vwCl [(o, .inr (1, [.ref o_letters, .ref o_tried, .ref o_best, .int o_known, .int 0, .int a, .int b, .int 0, .int o_most, .int o_least])), (t, .inr (7, [.int t_days, .int t_post, .int t_law, .int t_seed, .int t_lines, .int t_people, .int t_letters, .int t_lawTold, .ref t_hours, .ref t_kind, .ref t_master, .ref t_from, .ref t_to, .ref t_on, .ref t_told, .ref t_after, .ref t_worth, .ref t_by])), (t_to, .inl (kt_to, 49, .inl ft_to)), (t_on, .inl (kt_on, 49, .inl ft_on)), (o_letters, .inl (ko_letters, 6, .inl fo_letters)), (o_tried, .inl (ko_tried, 6, .inl fo_tried))] H := hP
  have hD : va_D A [(o, .inr (1, [.ref o_letters, .ref o_tried, .ref o_best, .int o_known, .int 0, .int a, .int b, .int 0, .int o_most, .int o_least])), (t, .inr (7, [.int t_days, .int t_post, .int t_law, .int t_seed, .int t_lines, .int t_people, .int t_letters, .int t_lawTold, .ref t_hours, .ref t_kind, .ref t_master, .ref t_from, .ref t_to, .ref t_on, .ref t_told, .ref t_after, .ref t_worth, .ref t_by])), (t_to, .inl (kt_to, 49, .inl ft_to)), (t_on, .inl (kt_on, 49, .inl ft_on)), (o_letters, .inl (ko_letters, 6, .inl fo_letters)), (o_tried, .inl (ko_tried, 6, .inl fo_tried))] := hD
  refine lv_iconst (v := 0) hx hb dX1_gather_20 (by decide) ?_
  refine lv_istore (lv' := [(4, .int 0), (0, .ref o), (1, .ref t), (2, .int a), (3, .int b)]) hx hb dX1_gather_21 hl (by decide) rfl (fun ls hl => ?_)
  have hL23_166 : ∀ (k : Nat) (v_13 : Int32) (v_14 : Int32) (f_15 : Nat → Int32) (f_16 : Nat → Int32) (H : Heap) (locs : List Loc) (ls : Array Slot), (24 - v_13.toInt).toNat < k → ((0) ≤ v_13.toInt ∧ v_13.toInt ≤ 24) → ((0) ≤ v_14.toInt ∧ v_14.toInt ≤ 6) → (bd (0) (23) f_16) → va_P (dC, dI) vwCl [(o, .inr (1, [.ref o_letters, .ref o_tried, .ref o_best, .int o_known, .int 0, .int a, .int b, .int v_14, .int o_most, .int o_least])), (t, .inr (7, [.int t_days, .int t_post, .int t_law, .int t_seed, .int t_lines, .int t_people, .int t_letters, .int t_lawTold, .ref t_hours, .ref t_kind, .ref t_master, .ref t_from, .ref t_to, .ref t_on, .ref t_told, .ref t_after, .ref t_worth, .ref t_by])), (t_to, .inl (kt_to, 49, .inl ft_to)), (t_on, .inl (kt_on, 49, .inl ft_on)), (o_letters, .inl (ko_letters, 6, .inl f_15)), (o_tried, .inl (ko_tried, 6, .inl f_16))] H → va_D A [(o, .inr (1, [.ref o_letters, .ref o_tried, .ref o_best, .int o_known, .int 0, .int a, .int b, .int v_14, .int o_most, .int o_least])), (t, .inr (7, [.int t_days, .int t_post, .int t_law, .int t_seed, .int t_lines, .int t_people, .int t_letters, .int t_lawTold, .ref t_hours, .ref t_kind, .ref t_master, .ref t_from, .ref t_to, .ref t_on, .ref t_told, .ref t_after, .ref t_worth, .ref t_by])), (t_to, .inl (kt_to, 49, .inl ft_to)), (t_on, .inl (kt_on, 49, .inl ft_on)), (o_letters, .inl (ko_letters, 6, .inl f_15)), (o_tried, .inl (ko_tried, 6, .inl f_16))] → va_S A s.heap H locs → lv_has ls 5 [(0, .ref o), (1, .ref t), (2, .int a), (3, .int b), (4, .int v_13)] → W pr_ l en_ ({ frames := 0, cells := 0, slots := 0, locals := 0 }) s me_ ([.ref o, .ref t, .int a, .int b]).toArray below meth c H locs 0 0 Q (F0 me_ 23 ls []) := by
    intro k
    induction k with
    | zero => intro v_13 v_14 f_15 f_16 H locs ls hmu; exact absurd hmu (Nat.not_lt_zero _)
    | succ k ih23_166 =>
      intro v_13 v_14 f_15 f_16 H locs ls hmu23 b_v_13 b_v_14 g_f_16 hP hD hS hl
      refine lv_iload hx hb dX1_gather_23 (lv_at hl 4 rfl) ?_
      refine lv_aload_n hx hb dX1_gather_25 rfl (lv_at hl 1 rfl) ?_
      refine va_get (D := (dC, dI)) (ci := 7) (v := .int t_letters) (C := RX7) (T := TX7) (N := 18) hx hb hts inA7 hown hK hP 1 rfl rfl 6 (by decide) (hts _ w_1078) (fun _ h9 => h9) rfl dX1_gather_26 ?_
      have b_t_letters : (0) ≤ t_letters.toInt ∧ t_letters.toInt ≤ 24 := b_t_letters
      refine lv_icmp_ge (tgt := 103) hx hb dX1_gather_29 (by decide) (fun c_167 => ?_) (fun c_167 => ?_)
      · have ec_167 := q_ge (a := v_13.toInt) (b := t_letters.toInt) rfl rfl c_167
        refine lv_iconst (v := 1) hx hb dX1_gather_103 (by decide) ?_
        have z_168 : (1 : Int32).toInt = 1 := by decide
        have hP9 := hP.sub (ws' := [(o, .inr (1, [.ref o_letters, .ref o_tried, .ref o_best, .int o_known, .int 0, .int a, .int b, .int v_14, .int o_most, .int o_least])), (t, .inr (7, [.int t_days, .int t_post, .int t_law, .int t_seed, .int t_lines, .int t_people, .int t_letters, .int t_lawTold, .ref t_hours, .ref t_kind, .ref t_master, .ref t_from, .ref t_to, .ref t_on, .ref t_told, .ref t_after, .ref t_worth, .ref t_by])), (t_to, .inl (kt_to, 49, .inl ft_to)), (t_on, .inl (kt_on, 49, .inl ft_on)), (o_letters, .inl (ko_letters, 6, .inl f_15)), (o_tried, .inl (ko_tried, 6, .inl f_16))]) [0, 1, 2, 3, 4, 5] rfl
        have hD9 := hD.sub (ws' := [(o, .inr (1, [.ref o_letters, .ref o_tried, .ref o_best, .int o_known, .int 0, .int a, .int b, .int v_14, .int o_most, .int o_least])), (t, .inr (7, [.int t_days, .int t_post, .int t_law, .int t_seed, .int t_lines, .int t_people, .int t_letters, .int t_lawTold, .ref t_hours, .ref t_kind, .ref t_master, .ref t_from, .ref t_to, .ref t_on, .ref t_told, .ref t_after, .ref t_worth, .ref t_by])), (t_to, .inl (kt_to, 49, .inl ft_to)), (t_on, .inl (kt_on, 49, .inl ft_on)), (o_letters, .inl (ko_letters, 6, .inl f_15)), (o_tried, .inl (ko_tried, 6, .inl f_16))]) [0, 1, 2, 3, 4, 5] (by decide) rfl
        have hK9 := hK.sub (tys' := []) [] rfl
        refine gQe eQ ?_
        exact W.zret (v := 1) hx hb hr (by decide) (fun t9 ht hW => ⟨⟨1, 1, rfl, rfl, 0, a, b, v_14, f_15, f_16, ⟨by decide, by decide⟩, b_v_14, g_f_16, ⟨by decide, by decide⟩, by rw [ht]; exact hP9, va_K.moved hW.alike hK9, hD9⟩, hS.F ht⟩) hS.2.2 dX1_gather_104
      · have ec_167 := q_nge (a := v_13.toInt) (b := t_letters.toInt) rfl rfl c_167
        refine lv_aload_n hx hb dX1_gather_32 rfl (lv_at hl 1 rfl) ?_
        refine va_get (D := (dC, dI)) (ci := 7) (v := .ref t_to) (C := RX7) (T := TX7) (N := 18) hx hb hts inA7 hown hK hP 1 rfl rfl 12 (by decide) (hts _ w_1079) (fun _ h9 => h9) rfl dX1_gather_33 ?_
        refine lv_iload hx hb dX1_gather_36 (lv_at hl 4 rfl) ?_
        refine va_iald hx hb hK hP 2 0 rfl rfl (vp_in_iff.mpr ⟨Int.le_trans (by decide) b_v_13.1, Int.lt_of_le_of_lt b_v_13.2 (by decide)⟩) dX1_gather_38 ?_
        refine lv_topi (fun x_169 ex_169 => ?_)
        have b_x_169 := bd.at g_ft_to ex_169
        refine lv_iload_n hx hb dX1_gather_39 rfl (lv_at hl 2 rfl) ?_
        have rg_171 := q_rng a
        refine lv_icmp_ne (tgt := 97) hx hb dX1_gather_40 (by decide) (fun c_170 => ?_) (fun c_170 => ?_)
        · have ec_170 := q_ne (a := x_169.toInt) (b := a.toInt) rfl rfl c_170
          obtain ⟨y_172, ey_172⟩ : ∃ y : Int32, y = v_13 + Int32.ofInt (1) := ⟨_, rfl⟩
          have b_y_172 := q_add (a := v_13.toInt) (b := 1) ey_172 rfl (by decide) (by omega) (by omega)
          refine lv_iinc (v := y_172) (lv' := [(4, .int y_172), (0, .ref o), (1, .ref t), (2, .int a), (3, .int b)]) hx hb dX1_gather_97 hl (k := 4) rfl ey_172.symm (by decide) rfl (fun ls hl => ?_)
          refine lv_goto (tgt := 23) hx hb dX1_gather_100 (by decide) ?_
          have bq_173 : (0) ≤ y_172.toInt ∧ y_172.toInt ≤ 24 := ⟨by omega, by omega⟩
          exact ih23_166 y_172 v_14 f_15 f_16 H locs ls (by omega) bq_173 b_v_14 g_f_16 hP hD hS (lv_sub hl [1, 2, 3, 4, 0] rfl)
        · have ec_170 := q_nne (a := x_169.toInt) (b := a.toInt) rfl rfl c_170
          refine lv_aload_n hx hb dX1_gather_43 rfl (lv_at hl 1 rfl) ?_
          refine va_get (D := (dC, dI)) (ci := 7) (v := .ref t_on) (C := RX7) (T := TX7) (N := 18) hx hb hts inA7 hown hK hP 1 rfl rfl 13 (by decide) (hts _ w_1080) (fun _ h9 => h9) rfl dX1_gather_44 ?_
          refine lv_iload hx hb dX1_gather_47 (lv_at hl 4 rfl) ?_
          refine va_iald hx hb hK hP 3 1 rfl rfl (vp_in_iff.mpr ⟨Int.le_trans (by decide) b_v_13.1, Int.lt_of_le_of_lt b_v_13.2 (by decide)⟩) dX1_gather_49 ?_
          refine lv_topi (fun x_174 ex_174 => ?_)
          refine lv_iload_n hx hb dX1_gather_50 rfl (lv_at hl 3 rfl) ?_
          have rg_176 := q_rng x_174
          have rg_177 := q_rng b
          refine lv_icmp_ne (tgt := 97) hx hb dX1_gather_51 (by decide) (fun c_175 => ?_) (fun c_175 => ?_)
          · have ec_175 := q_ne (a := x_174.toInt) (b := b.toInt) rfl rfl c_175
            obtain ⟨y_178, ey_178⟩ : ∃ y : Int32, y = v_13 + Int32.ofInt (1) := ⟨_, rfl⟩
            have b_y_178 := q_add (a := v_13.toInt) (b := 1) ey_178 rfl (by decide) (by omega) (by omega)
            refine lv_iinc (v := y_178) (lv' := [(4, .int y_178), (0, .ref o), (1, .ref t), (2, .int a), (3, .int b)]) hx hb dX1_gather_97 hl (k := 4) rfl ey_178.symm (by decide) rfl (fun ls hl => ?_)
            refine lv_goto (tgt := 23) hx hb dX1_gather_100 (by decide) ?_
            have bq_179 : (0) ≤ y_178.toInt ∧ y_178.toInt ≤ 24 := ⟨by omega, by omega⟩
            exact ih23_166 y_178 v_14 f_15 f_16 H locs ls (by omega) bq_179 b_v_14 g_f_16 hP hD hS (lv_sub hl [1, 2, 3, 4, 0] rfl)
          · have ec_175 := q_nne (a := x_174.toInt) (b := b.toInt) rfl rfl c_175
            refine lv_aload_n hx hb dX1_gather_54 rfl (lv_at hl 0 rfl) ?_
            refine va_get (D := (dC, dI)) (ci := 1) (v := .int v_14) (C := RX1) (T := TX1) (N := 10) hx hb hts inA1 hown hK hP 0 rfl rfl 7 (by decide) (hts _ w_153) (fun _ h9 => h9) rfl dX1_gather_55 ?_
            refine lv_bipush (v := 6) hx hb dX1_gather_58 (by decide) ?_
            refine lv_icmp_lt (tgt := 65) hx hb dX1_gather_60 (by decide) (fun c_180 => ?_) (fun c_180 => ?_)
            · have ec_180 := q_lt (a := v_14.toInt) (b := 6) rfl (by decide) c_180
              refine lv_aload_n hx hb dX1_gather_65 rfl (lv_at hl 0 rfl) ?_
              refine va_get (D := (dC, dI)) (ci := 1) (v := .ref o_letters) (C := RX1) (T := TX1) (N := 10) hx hb hts inA1 hown hK hP 0 rfl rfl 0 (by decide) (hts _ w_146) (fun _ h9 => h9) rfl dX1_gather_66 ?_
              refine lv_aload_n hx hb dX1_gather_69 rfl (lv_at hl 0 rfl) ?_
              refine va_get (D := (dC, dI)) (ci := 1) (v := .int v_14) (C := RX1) (T := TX1) (N := 10) hx hb hts inA1 hown hK hP 0 rfl rfl 7 (by decide) (hts _ w_153) (fun _ h9 => h9) rfl dX1_gather_70 ?_
              refine lv_iload hx hb dX1_gather_73 (lv_at hl 4 rfl) ?_
              refine va_iast hx hb hK hP hD hS 4 2 rfl rfl (vp_in_iff.mpr ⟨by omega, by omega⟩) dX1_gather_75 (fun H locs hP hD hS => ?_)
              generalize ef_181 : upd f_15 (v_14 : Int32).toNatClampNeg v_13 = f_181 at hP hD
              have hP : va_P (dC, dI) vwCl [(o, .inr (1, [.ref o_letters, .ref o_tried, .ref o_best, .int o_known, .int 0, .int a, .int b, .int v_14, .int o_most, .int o_least])), (t, .inr (7, [.int t_days, .int t_post, .int t_law, .int t_seed, .int t_lines, .int t_people, .int t_letters, .int t_lawTold, .ref t_hours, .ref t_kind, .ref t_master, .ref t_from, .ref t_to, .ref t_on, .ref t_told, .ref t_after, .ref t_worth, .ref t_by])), (t_to, .inl (kt_to, 49, .inl ft_to)), (t_on, .inl (kt_on, 49, .inl ft_on)), (o_letters, .inl (ko_letters, 6, .inl f_181)), (o_tried, .inl (ko_tried, 6, .inl f_16))] H := hP
              have hD : va_D A [(o, .inr (1, [.ref o_letters, .ref o_tried, .ref o_best, .int o_known, .int 0, .int a, .int b, .int v_14, .int o_most, .int o_least])), (t, .inr (7, [.int t_days, .int t_post, .int t_law, .int t_seed, .int t_lines, .int t_people, .int t_letters, .int t_lawTold, .ref t_hours, .ref t_kind, .ref t_master, .ref t_from, .ref t_to, .ref t_on, .ref t_told, .ref t_after, .ref t_worth, .ref t_by])), (t_to, .inl (kt_to, 49, .inl ft_to)), (t_on, .inl (kt_on, 49, .inl ft_on)), (o_letters, .inl (ko_letters, 6, .inl f_181)), (o_tried, .inl (ko_tried, 6, .inl f_16))] := hD
              refine lv_aload_n hx hb dX1_gather_76 rfl (lv_at hl 0 rfl) ?_
              refine va_get (D := (dC, dI)) (ci := 1) (v := .ref o_tried) (C := RX1) (T := TX1) (N := 10) hx hb hts inA1 hown hK hP 0 rfl rfl 1 (by decide) (hts _ w_147) (fun _ h9 => h9) rfl dX1_gather_77 ?_
              refine lv_aload_n hx hb dX1_gather_80 rfl (lv_at hl 0 rfl) ?_
              refine va_get (D := (dC, dI)) (ci := 1) (v := .int v_14) (C := RX1) (T := TX1) (N := 10) hx hb hts inA1 hown hK hP 0 rfl rfl 7 (by decide) (hts _ w_153) (fun _ h9 => h9) rfl dX1_gather_81 ?_
              refine lv_iload hx hb dX1_gather_84 (lv_at hl 4 rfl) ?_
              refine va_iast hx hb hK hP hD hS 5 3 rfl rfl (vp_in_iff.mpr ⟨by omega, by omega⟩) dX1_gather_86 (fun H locs hP hD hS => ?_)
              have g_f_182 := bd_upd (k := (v_14 : Int32).toNatClampNeg) (x := v_13) (a := v_13.toInt) g_f_16 rfl (by omega) (by omega)
              generalize ef_182 : upd f_16 (v_14 : Int32).toNatClampNeg v_13 = f_182 at hP hD g_f_182
              have hP : va_P (dC, dI) vwCl [(o, .inr (1, [.ref o_letters, .ref o_tried, .ref o_best, .int o_known, .int 0, .int a, .int b, .int v_14, .int o_most, .int o_least])), (t, .inr (7, [.int t_days, .int t_post, .int t_law, .int t_seed, .int t_lines, .int t_people, .int t_letters, .int t_lawTold, .ref t_hours, .ref t_kind, .ref t_master, .ref t_from, .ref t_to, .ref t_on, .ref t_told, .ref t_after, .ref t_worth, .ref t_by])), (t_to, .inl (kt_to, 49, .inl ft_to)), (t_on, .inl (kt_on, 49, .inl ft_on)), (o_letters, .inl (ko_letters, 6, .inl f_181)), (o_tried, .inl (ko_tried, 6, .inl f_182))] H := hP
              have hD : va_D A [(o, .inr (1, [.ref o_letters, .ref o_tried, .ref o_best, .int o_known, .int 0, .int a, .int b, .int v_14, .int o_most, .int o_least])), (t, .inr (7, [.int t_days, .int t_post, .int t_law, .int t_seed, .int t_lines, .int t_people, .int t_letters, .int t_lawTold, .ref t_hours, .ref t_kind, .ref t_master, .ref t_from, .ref t_to, .ref t_on, .ref t_told, .ref t_after, .ref t_worth, .ref t_by])), (t_to, .inl (kt_to, 49, .inl ft_to)), (t_on, .inl (kt_on, 49, .inl ft_on)), (o_letters, .inl (ko_letters, 6, .inl f_181)), (o_tried, .inl (ko_tried, 6, .inl f_182))] := hD
              refine lv_aload_n hx hb dX1_gather_87 rfl (lv_at hl 0 rfl) ?_
              refine lv_dup hx hb dX1_gather_88 rfl ?_
              refine va_get (D := (dC, dI)) (ci := 1) (v := .int v_14) (C := RX1) (T := TX1) (N := 10) hx hb hts inA1 hown hK hP 0 rfl rfl 7 (by decide) (hts _ w_153) (fun _ h9 => h9) rfl dX1_gather_89 ?_
              refine lv_iconst (v := 1) hx hb dX1_gather_92 (by decide) ?_
              refine lv_iadd hx hb dX1_gather_93 ?_
              refine lv_topi (fun x_183 ex_183 => ?_)
              have b_x_183 := q_add (a := v_14.toInt) (b := 1) ex_183 rfl (by decide) (by omega) (by omega)
              refine va_put (D := (dC, dI)) (ci := 1) (v := .int x_183) (ty := tyX1 7) (C := RX1) (T := TX1) (N := 10) hx hb hts inA1 tyX1 tyX1_ok nmX1 hown hK hP hD hS 0 rfl rfl 7 (by decide) (hts _ w_153) (fun _ h9 => h9) rfl (tyX1_ok 7 (by decide)) rfl rfl (Nat.le_of_ble_eq_true rfl) dX1_gather_94 (fun H locs hP hD hS => ?_)
              have hP : va_P (dC, dI) vwCl [(o, .inr (1, [.ref o_letters, .ref o_tried, .ref o_best, .int o_known, .int 0, .int a, .int b, .int x_183, .int o_most, .int o_least])), (t, .inr (7, [.int t_days, .int t_post, .int t_law, .int t_seed, .int t_lines, .int t_people, .int t_letters, .int t_lawTold, .ref t_hours, .ref t_kind, .ref t_master, .ref t_from, .ref t_to, .ref t_on, .ref t_told, .ref t_after, .ref t_worth, .ref t_by])), (t_to, .inl (kt_to, 49, .inl ft_to)), (t_on, .inl (kt_on, 49, .inl ft_on)), (o_letters, .inl (ko_letters, 6, .inl f_181)), (o_tried, .inl (ko_tried, 6, .inl f_182))] H := hP
              have hD : va_D A [(o, .inr (1, [.ref o_letters, .ref o_tried, .ref o_best, .int o_known, .int 0, .int a, .int b, .int x_183, .int o_most, .int o_least])), (t, .inr (7, [.int t_days, .int t_post, .int t_law, .int t_seed, .int t_lines, .int t_people, .int t_letters, .int t_lawTold, .ref t_hours, .ref t_kind, .ref t_master, .ref t_from, .ref t_to, .ref t_on, .ref t_told, .ref t_after, .ref t_worth, .ref t_by])), (t_to, .inl (kt_to, 49, .inl ft_to)), (t_on, .inl (kt_on, 49, .inl ft_on)), (o_letters, .inl (ko_letters, 6, .inl f_181)), (o_tried, .inl (ko_tried, 6, .inl f_182))] := hD
              obtain ⟨y_184, ey_184⟩ : ∃ y : Int32, y = v_13 + Int32.ofInt (1) := ⟨_, rfl⟩
              have b_y_184 := q_add (a := v_13.toInt) (b := 1) ey_184 rfl (by decide) (by omega) (by omega)
              refine lv_iinc (v := y_184) (lv' := [(4, .int y_184), (0, .ref o), (1, .ref t), (2, .int a), (3, .int b)]) hx hb dX1_gather_97 hl (k := 4) rfl ey_184.symm (by decide) rfl (fun ls hl => ?_)
              refine lv_goto (tgt := 23) hx hb dX1_gather_100 (by decide) ?_
              have bq_185 : (0) ≤ y_184.toInt ∧ y_184.toInt ≤ 24 := ⟨by omega, by omega⟩
              have bq_186 : (0) ≤ x_183.toInt ∧ x_183.toInt ≤ 6 := ⟨by omega, by omega⟩
              exact ih23_166 y_184 x_183 f_181 f_182 H locs ls (by omega) bq_185 bq_186 g_f_182 hP hD hS (lv_sub hl [1, 2, 3, 4, 0] rfl)
            · have ec_180 := q_nlt (a := v_14.toInt) (b := 6) rfl (by decide) c_180
              refine lv_iconst (v := 0) hx hb dX1_gather_63 (by decide) ?_
              have z_187 : (0 : Int32).toInt = 0 := by decide
              have hP9 := hP.sub (ws' := [(o, .inr (1, [.ref o_letters, .ref o_tried, .ref o_best, .int o_known, .int 0, .int a, .int b, .int v_14, .int o_most, .int o_least])), (t, .inr (7, [.int t_days, .int t_post, .int t_law, .int t_seed, .int t_lines, .int t_people, .int t_letters, .int t_lawTold, .ref t_hours, .ref t_kind, .ref t_master, .ref t_from, .ref t_to, .ref t_on, .ref t_told, .ref t_after, .ref t_worth, .ref t_by])), (t_to, .inl (kt_to, 49, .inl ft_to)), (t_on, .inl (kt_on, 49, .inl ft_on)), (o_letters, .inl (ko_letters, 6, .inl f_15)), (o_tried, .inl (ko_tried, 6, .inl f_16))]) [0, 1, 2, 3, 4, 5] rfl
              have hD9 := hD.sub (ws' := [(o, .inr (1, [.ref o_letters, .ref o_tried, .ref o_best, .int o_known, .int 0, .int a, .int b, .int v_14, .int o_most, .int o_least])), (t, .inr (7, [.int t_days, .int t_post, .int t_law, .int t_seed, .int t_lines, .int t_people, .int t_letters, .int t_lawTold, .ref t_hours, .ref t_kind, .ref t_master, .ref t_from, .ref t_to, .ref t_on, .ref t_told, .ref t_after, .ref t_worth, .ref t_by])), (t_to, .inl (kt_to, 49, .inl ft_to)), (t_on, .inl (kt_on, 49, .inl ft_on)), (o_letters, .inl (ko_letters, 6, .inl f_15)), (o_tried, .inl (ko_tried, 6, .inl f_16))]) [0, 1, 2, 3, 4, 5] (by decide) rfl
              have hK9 := hK.sub (tys' := []) [] rfl
              refine gQe eQ ?_
              exact W.zret (v := 0) hx hb hr (by decide) (fun t9 ht hW => ⟨⟨0, 0, rfl, rfl, 0, a, b, v_14, f_15, f_16, ⟨by decide, by decide⟩, b_v_14, g_f_16, ⟨by decide, by decide⟩, by rw [ht]; exact hP9, va_K.moved hW.alike hK9, hD9⟩, hS.F ht⟩) hS.2.2 dX1_gather_64
  exact hL23_166 _ 0 0 fo_letters fo_tried H locs ls (Nat.lt_succ_self _) ⟨by decide, by decide⟩ ⟨by decide, by decide⟩ g_fo_tried hP hD hS (lv_sub hl [1, 2, 3, 4, 0] rfl)
set_option maxHeartbeats 4000000 in
set_option maxRecDepth 100000 in
theorem o_putInto (l : Launch) (dC : Nat → ClassId) (dI : Nat → Nat → Nat) (sz : Nat) (o : Nat) (p : Nat) (o_letters : Nat) (o_tried : Nat) (o_best : Nat) (o_known : Int32) (o_weighed : Int32) (o_person : Int32) (o_day : Int32) (o_count : Int32) (o_most : Int32) (o_least : Int32) (p_town : Nat) (p_number : Nat) (p_visitLetter : Int32) (p_visitDay : Int32) (p_visitHours : Int32) (p_burnPerson : Int32) (p_burnDay : Int32) (ko_tried : ClassId) (fo_tried : Nat → Int32) (ko_letters : ClassId) (fo_letters : Nat → Int32) (kp_number : ClassId) (fp_number : Nat → Int32) (b_o_known : (0) ≤ o_known.toInt ∧ o_known.toInt ≤ 1) (b_o_weighed : (0) ≤ o_weighed.toInt ∧ o_weighed.toInt ≤ 1) (b_o_count : (0) ≤ o_count.toInt ∧ o_count.toInt ≤ 6) (b_p_visitLetter : (-1) ≤ p_visitLetter.toInt ∧ p_visitLetter.toInt ≤ 23) (b_p_burnPerson : (-1) ≤ p_burnPerson.toInt ∧ p_burnPerson.toInt ≤ 7) (g_fo_tried : bd (0) (23) fo_tried) : Met l yX1_putInto (.code yX1_putInto cX1_putInto 3 none :: ALLW) ({ frames := 0, cells := 0, slots := 0, locals := 0 }) (va_Pc [.ref o, .ref p] (fun U => U.heap.size = sz ∧ va_P (dC, dI) vwCl [(o, .inr (1, [.ref o_letters, .ref o_tried, .ref o_best, .int o_known, .int o_weighed, .int o_person, .int o_day, .int o_count, .int o_most, .int o_least])), (p, .inr (2, [.ref p_town, .ref p_number, .int p_visitLetter, .int p_visitDay, .int p_visitHours, .int p_burnPerson, .int p_burnDay])), (o_tried, .inl (ko_tried, 6, .inl fo_tried)), (o_letters, .inl (ko_letters, 6, .inl fo_letters)), (p_number, .inl (kp_number, 49, .inl fp_number))] U.heap ∧ va_K (dC, dI) vwCl [(ko_tried, .int), (ko_letters, .int), (kp_number, .int)] U ∧ va_D (fun _ => True) [(o, .inr (1, [.ref o_letters, .ref o_tried, .ref o_best, .int o_known, .int o_weighed, .int o_person, .int o_day, .int o_count, .int o_most, .int o_least])), (p, .inr (2, [.ref p_town, .ref p_number, .int p_visitLetter, .int p_visitDay, .int p_visitHours, .int p_burnPerson, .int p_burnDay])), (o_tried, .inl (ko_tried, 6, .inl fo_tried)), (o_letters, .inl (ko_letters, 6, .inl fo_letters)), (p_number, .inl (kp_number, 49, .inl fp_number))])) (va_Qv (fun _ : Unit => True) (fun (_ : Unit) (t9 : State) => ∃ (fp_numberz : Nat → Int32), va_P (dC, dI) vwCl [(o, .inr (1, [.ref o_letters, .ref o_tried, .ref o_best, .int o_known, .int o_weighed, .int o_person, .int o_day, .int o_count, .int o_most, .int o_least])), (p, .inr (2, [.ref p_town, .ref p_number, .int p_visitLetter, .int p_visitDay, .int p_visitHours, .int p_burnPerson, .int p_burnDay])), (o_tried, .inl (ko_tried, 6, .inl fo_tried)), (o_letters, .inl (ko_letters, 6, .inl fo_letters)), (p_number, .inl (kp_number, 49, .inl fp_numberz))] t9.heap ∧ va_K (dC, dI) vwCl [] t9 ∧ va_D (va_A [(o, .inr (1, [.ref o_letters, .ref o_tried, .ref o_best, .int o_known, .int o_weighed, .int o_person, .int o_day, .int o_count, .int o_most, .int o_least])), (p, .inr (2, [.ref p_town, .ref p_number, .int p_visitLetter, .int p_visitDay, .int p_visitHours, .int p_burnPerson, .int p_burnDay])), (o_tried, .inl (ko_tried, 6, .inl fo_tried)), (o_letters, .inl (ko_letters, 6, .inl fo_letters)), (p_number, .inl (kp_number, 49, .inl fp_number))] sz) [(o, .inr (1, [.ref o_letters, .ref o_tried, .ref o_best, .int o_known, .int o_weighed, .int o_person, .int o_day, .int o_count, .int o_most, .int o_least])), (p, .inr (2, [.ref p_town, .ref p_number, .int p_visitLetter, .int p_visitDay, .int p_visitHours, .int p_burnPerson, .int p_burnDay])), (o_tried, .inl (ko_tried, 6, .inl fo_tried)), (o_letters, .inl (ko_letters, 6, .inl fo_letters)), (p_number, .inl (kp_number, 49, .inl fp_numberz))]) (va_A [(o, .inr (1, [.ref o_letters, .ref o_tried, .ref o_best, .int o_known, .int o_weighed, .int o_person, .int o_day, .int o_count, .int o_most, .int o_least])), (p, .inr (2, [.ref p_town, .ref p_number, .int p_visitLetter, .int p_visitDay, .int p_visitHours, .int p_burnPerson, .int p_burnDay])), (o_tried, .inl (ko_tried, 6, .inl fo_tried)), (o_letters, .inl (ko_letters, 6, .inl fo_letters)), (p_number, .inl (kp_number, 49, .inl fp_number))] sz)) 0 0 (va_A [(o, .inr (1, [.ref o_letters, .ref o_tried, .ref o_best, .int o_known, .int o_weighed, .int o_person, .int o_day, .int o_count, .int o_most, .int o_least])), (p, .inr (2, [.ref p_town, .ref p_number, .int p_visitLetter, .int p_visitDay, .int p_visitHours, .int p_burnPerson, .int p_burnDay])), (o_tried, .inl (ko_tried, 6, .inl fo_tried)), (o_letters, .inl (ko_letters, 6, .inl fo_letters)), (p_number, .inl (kp_number, 49, .inl fp_number))] sz) := by
  refine Met.ofW (cc := cX1_putInto) (maxL := 3) (ret := none) (by decide) rfl ?_
  intro pr_ en_ s me_ args below meth c s₁ B hml hv
  obtain ⟨rfl, hsz, hP, hK, hD0⟩ := hv
  have hx := B.exec
  have hb := B.bytes
  have hr := B.returns
  have hts0 := atoms_spec (ws := (.code yX1_putInto cX1_putInto 3 none :: ALLW)) B.pre
  have hts := fun (w : Cond) (h : w ∈ ALLW) => hts0 w (List.mem_cons_of_mem _ h)
  have hown : s.vm.findClass RX1 = some me_.cls := findClass_of_methodNamed B.named
  have hlocks := B.notSynchronized
  subst hsz
  have hD := hD0.self (sz := s.heap.size)
  generalize hAe : va_A [(o, .inr (1, [.ref o_letters, .ref o_tried, .ref o_best, .int o_known, .int o_weighed, .int o_person, .int o_day, .int o_count, .int o_most, .int o_least])), (p, .inr (2, [.ref p_town, .ref p_number, .int p_visitLetter, .int p_visitDay, .int p_visitHours, .int p_burnPerson, .int p_burnDay])), (o_tried, .inl (ko_tried, 6, .inl fo_tried)), (o_letters, .inl (ko_letters, 6, .inl fo_letters)), (p_number, .inl (kp_number, 49, .inl fp_number))] s.heap.size = A at hD ⊢
  have hA : ∀ q : Nat, s.heap.size ≤ q → A q := fun q h => by rw [← hAe]; exact Or.inr h
  have hS : va_S A s.heap s.heap [] := va_S.rf
  have hP : va_P (dC, dI) vwCl [(o, .inr (1, [.ref o_letters, .ref o_tried, .ref o_best, .int o_known, .int o_weighed, .int o_person, .int o_day, .int o_count, .int o_most, .int o_least])), (p, .inr (2, [.ref p_town, .ref p_number, .int p_visitLetter, .int p_visitDay, .int p_visitHours, .int p_burnPerson, .int p_burnDay])), (o_tried, .inl (ko_tried, 6, .inl fo_tried)), (o_letters, .inl (ko_letters, 6, .inl fo_letters)), (p_number, .inl (kp_number, 49, .inl fp_number))] s.heap := hP
  have hl := lv_entry ([.ref o, .ref p]) (n := 3) (Nat.le_of_ble_eq_true rfl)
  rw [lg_entry_eq]
  generalize (lg_sl ([.ref o, .ref p]) ++ List.replicate (3 - (lg_sl ([.ref o, .ref p])).length) Slot.unset).toArray = ls at hl ⊢
  have hl : lv_has ls 3 [(0, .ref o), (1, .ref p)] := hl
  refine gQ (fun Q eQ => ?_)
  refine lv_iconst (v := 0) hx hb dX1_putInto_0 (by decide) ?_
  refine lv_istore_n (lv' := [(2, .int 0), (0, .ref o), (1, .ref p)]) hx hb dX1_putInto_1 rfl hl (by decide) rfl (fun ls hl => ?_)
  have hL2_41 : ∀ (k : Nat) (v_5 : Int32) (f_6 : Nat → Int32) (H : Heap) (locs : List Loc) (ls : Array Slot), (6 - v_5.toInt).toNat < k → ((0) ≤ v_5.toInt ∧ v_5.toInt ≤ 6) → va_P (dC, dI) vwCl [(o, .inr (1, [.ref o_letters, .ref o_tried, .ref o_best, .int o_known, .int o_weighed, .int o_person, .int o_day, .int o_count, .int o_most, .int o_least])), (p, .inr (2, [.ref p_town, .ref p_number, .int p_visitLetter, .int p_visitDay, .int p_visitHours, .int p_burnPerson, .int p_burnDay])), (o_tried, .inl (ko_tried, 6, .inl fo_tried)), (o_letters, .inl (ko_letters, 6, .inl fo_letters)), (p_number, .inl (kp_number, 49, .inl f_6))] H → va_D A [(o, .inr (1, [.ref o_letters, .ref o_tried, .ref o_best, .int o_known, .int o_weighed, .int o_person, .int o_day, .int o_count, .int o_most, .int o_least])), (p, .inr (2, [.ref p_town, .ref p_number, .int p_visitLetter, .int p_visitDay, .int p_visitHours, .int p_burnPerson, .int p_burnDay])), (o_tried, .inl (ko_tried, 6, .inl fo_tried)), (o_letters, .inl (ko_letters, 6, .inl fo_letters)), (p_number, .inl (kp_number, 49, .inl f_6))] → va_S A s.heap H locs → lv_has ls 3 [(0, .ref o), (1, .ref p), (2, .int v_5)] → W pr_ l en_ ({ frames := 0, cells := 0, slots := 0, locals := 0 }) s me_ ([.ref o, .ref p]).toArray below meth c H locs 0 0 Q (F0 me_ 2 ls []) := by
    intro k
    induction k with
    | zero => intro v_5 f_6 H locs ls hmu; exact absurd hmu (Nat.not_lt_zero _)
    | succ k ih2_41 =>
      intro v_5 f_6 H locs ls hmu2 b_v_5 hP hD hS hl
      refine lv_iload_n hx hb dX1_putInto_2 rfl (lv_at hl 2 rfl) ?_
      refine lv_aload_n hx hb dX1_putInto_3 rfl (lv_at hl 0 rfl) ?_
      refine va_get (D := (dC, dI)) (ci := 1) (v := .int o_count) (C := RX1) (T := TX1) (N := 10) hx hb hts inA1 hown hK hP 0 rfl rfl 7 (by decide) (hts _ w_153) (fun _ h9 => h9) rfl dX1_putInto_4 ?_
      refine lv_icmp_ge (tgt := 33) hx hb dX1_putInto_7 (by decide) (fun c_42 => ?_) (fun c_42 => ?_)
      · have ec_42 := q_ge (a := v_5.toInt) (b := o_count.toInt) rfl rfl c_42
        have hP9 := hP.sub (ws' := [(o, .inr (1, [.ref o_letters, .ref o_tried, .ref o_best, .int o_known, .int o_weighed, .int o_person, .int o_day, .int o_count, .int o_most, .int o_least])), (p, .inr (2, [.ref p_town, .ref p_number, .int p_visitLetter, .int p_visitDay, .int p_visitHours, .int p_burnPerson, .int p_burnDay])), (o_tried, .inl (ko_tried, 6, .inl fo_tried)), (o_letters, .inl (ko_letters, 6, .inl fo_letters)), (p_number, .inl (kp_number, 49, .inl f_6))]) [0, 1, 2, 3, 4] rfl
        have hD9 := hD.sub (ws' := [(o, .inr (1, [.ref o_letters, .ref o_tried, .ref o_best, .int o_known, .int o_weighed, .int o_person, .int o_day, .int o_count, .int o_most, .int o_least])), (p, .inr (2, [.ref p_town, .ref p_number, .int p_visitLetter, .int p_visitDay, .int p_visitHours, .int p_burnPerson, .int p_burnDay])), (o_tried, .inl (ko_tried, 6, .inl fo_tried)), (o_letters, .inl (ko_letters, 6, .inl fo_letters)), (p_number, .inl (kp_number, 49, .inl f_6))]) [0, 1, 2, 3, 4] (by decide) rfl
        have hK9 := hK.sub (tys' := []) [] rfl
        refine gQe eQ ?_
        exact W.vret hx hb hr (fun t9 ht hW => ⟨⟨(), rfl, trivial, f_6, by rw [ht]; exact hP9, va_K.moved hW.alike hK9, hD9⟩, hS.F ht⟩) hS.2.2 dX1_putInto_33
      · have ec_42 := q_nge (a := v_5.toInt) (b := o_count.toInt) rfl rfl c_42
        refine lv_aload_n hx hb dX1_putInto_10 rfl (lv_at hl 1 rfl) ?_
        refine va_get (D := (dC, dI)) (ci := 2) (v := .ref p_number) (C := RX2) (T := TX2) (N := 7) hx hb hts inA2 hown hK hP 1 rfl rfl 1 (by decide) (hts _ w_1085) (fun _ h9 => h9) rfl dX1_putInto_11 ?_
        refine lv_aload_n hx hb dX1_putInto_14 rfl (lv_at hl 0 rfl) ?_
        refine va_get (D := (dC, dI)) (ci := 1) (v := .ref o_tried) (C := RX1) (T := TX1) (N := 10) hx hb hts inA1 hown hK hP 0 rfl rfl 1 (by decide) (hts _ w_147) (fun _ h9 => h9) rfl dX1_putInto_15 ?_
        refine lv_iload_n hx hb dX1_putInto_18 rfl (lv_at hl 2 rfl) ?_
        refine va_iald hx hb hK hP 2 0 rfl rfl (vp_in_iff.mpr ⟨by omega, by omega⟩) dX1_putInto_19 ?_
        refine lv_topi (fun x_43 ex_43 => ?_)
        have b_x_43 := bd.at g_fo_tried ex_43
        refine lv_aload_n hx hb dX1_putInto_20 rfl (lv_at hl 0 rfl) ?_
        refine va_get (D := (dC, dI)) (ci := 1) (v := .ref o_letters) (C := RX1) (T := TX1) (N := 10) hx hb hts inA1 hown hK hP 0 rfl rfl 0 (by decide) (hts _ w_146) (fun _ h9 => h9) rfl dX1_putInto_21 ?_
        refine lv_iload_n hx hb dX1_putInto_24 rfl (lv_at hl 2 rfl) ?_
        refine va_iald hx hb hK hP 3 1 rfl rfl (vp_in_iff.mpr ⟨by omega, by omega⟩) dX1_putInto_25 ?_
        refine lv_topi (fun x_44 ex_44 => ?_)
        refine va_iast hx hb hK hP hD hS 4 2 rfl rfl (vp_in_iff.mpr ⟨Int.le_trans (by decide) b_x_43.1, Int.lt_of_le_of_lt b_x_43.2 (by decide)⟩) dX1_putInto_26 (fun H locs hP hD hS => ?_)
        generalize ef_45 : upd f_6 (x_43 : Int32).toNatClampNeg x_44 = f_45 at hP hD
        have hP : va_P (dC, dI) vwCl [(o, .inr (1, [.ref o_letters, .ref o_tried, .ref o_best, .int o_known, .int o_weighed, .int o_person, .int o_day, .int o_count, .int o_most, .int o_least])), (p, .inr (2, [.ref p_town, .ref p_number, .int p_visitLetter, .int p_visitDay, .int p_visitHours, .int p_burnPerson, .int p_burnDay])), (o_tried, .inl (ko_tried, 6, .inl fo_tried)), (o_letters, .inl (ko_letters, 6, .inl fo_letters)), (p_number, .inl (kp_number, 49, .inl f_45))] H := hP
        have hD : va_D A [(o, .inr (1, [.ref o_letters, .ref o_tried, .ref o_best, .int o_known, .int o_weighed, .int o_person, .int o_day, .int o_count, .int o_most, .int o_least])), (p, .inr (2, [.ref p_town, .ref p_number, .int p_visitLetter, .int p_visitDay, .int p_visitHours, .int p_burnPerson, .int p_burnDay])), (o_tried, .inl (ko_tried, 6, .inl fo_tried)), (o_letters, .inl (ko_letters, 6, .inl fo_letters)), (p_number, .inl (kp_number, 49, .inl f_45))] := hD
        obtain ⟨y_46, ey_46⟩ : ∃ y : Int32, y = v_5 + Int32.ofInt (1) := ⟨_, rfl⟩
        have b_y_46 := q_add (a := v_5.toInt) (b := 1) ey_46 rfl (by decide) (by omega) (by omega)
        refine lv_iinc (v := y_46) (lv' := [(2, .int y_46), (0, .ref o), (1, .ref p)]) hx hb dX1_putInto_27 hl (k := 2) rfl ey_46.symm (by decide) rfl (fun ls hl => ?_)
        refine lv_goto (tgt := 2) hx hb dX1_putInto_30 (by decide) ?_
        have bq_47 : (0) ≤ y_46.toInt ∧ y_46.toInt ≤ 6 := ⟨by omega, by omega⟩
        exact ih2_41 y_46 f_45 H locs ls (by omega) bq_47 hP hD hS (lv_sub hl [1, 2, 0] rfl)
  exact hL2_41 _ 0 fp_number s.heap [] ls (Nat.lt_succ_self _) ⟨by decide, by decide⟩ hP hD hS (lv_sub hl [1, 2, 0] rfl)
set_option maxHeartbeats 4000000 in
set_option maxRecDepth 100000 in
theorem o_weigh (l : Launch) (dC : Nat → ClassId) (dI : Nat → Nat → Nat) (sz : Nat) (o : Nat) (a : Int32) (o_letters : Nat) (o_tried : Nat) (o_best : Nat) (o_known : Int32) (o_weighed : Int32) (o_person : Int32) (o_day : Int32) (o_count : Int32) (o_most : Int32) (o_least : Int32) (ko_tried : ClassId) (fo_tried : Nat → Int32) (ko_best : ClassId) (fo_best : Nat → Int32) (b_o_known : (0) ≤ o_known.toInt ∧ o_known.toInt ≤ 1) (b_o_weighed : (0) ≤ o_weighed.toInt ∧ o_weighed.toInt ≤ 1) (b_o_count : (0) ≤ o_count.toInt ∧ o_count.toInt ≤ 6) (g_fo_tried : bd (0) (23) fo_tried) : Met l yX1_weigh (.code yX1_weigh cX1_weigh 2 none :: ALLW) ({ frames := 1, cells := 0, slots := 0, locals := 64 }) (va_Pc [.ref o, .int a] (fun U => U.heap.size = sz ∧ va_P (dC, dI) vwCl [(o, .inr (1, [.ref o_letters, .ref o_tried, .ref o_best, .int o_known, .int o_weighed, .int o_person, .int o_day, .int o_count, .int o_most, .int o_least])), (o_tried, .inl (ko_tried, 6, .inl fo_tried)), (o_best, .inl (ko_best, 6, .inl fo_best))] U.heap ∧ va_K (dC, dI) vwCl [(ko_tried, .int), (ko_best, .int)] U ∧ va_D (fun _ => True) [(o, .inr (1, [.ref o_letters, .ref o_tried, .ref o_best, .int o_known, .int o_weighed, .int o_person, .int o_day, .int o_count, .int o_most, .int o_least])), (o_tried, .inl (ko_tried, 6, .inl fo_tried)), (o_best, .inl (ko_best, 6, .inl fo_best))])) (va_Qv (fun _ : Unit => True) (fun (_ : Unit) (t9 : State) => ∃ (o_weighedz : Int32) (o_mostz : Int32) (o_leastz : Int32) (fo_bestz : Nat → Int32), ((0) ≤ o_weighedz.toInt ∧ o_weighedz.toInt ≤ 1) ∧ va_P (dC, dI) vwCl [(o, .inr (1, [.ref o_letters, .ref o_tried, .ref o_best, .int o_known, .int o_weighedz, .int o_person, .int o_day, .int o_count, .int o_mostz, .int o_leastz])), (o_tried, .inl (ko_tried, 6, .inl fo_tried)), (o_best, .inl (ko_best, 6, .inl fo_bestz))] t9.heap ∧ va_K (dC, dI) vwCl [] t9 ∧ va_D (va_A [(o, .inr (1, [.ref o_letters, .ref o_tried, .ref o_best, .int o_known, .int o_weighed, .int o_person, .int o_day, .int o_count, .int o_most, .int o_least])), (o_tried, .inl (ko_tried, 6, .inl fo_tried)), (o_best, .inl (ko_best, 6, .inl fo_best))] sz) [(o, .inr (1, [.ref o_letters, .ref o_tried, .ref o_best, .int o_known, .int o_weighedz, .int o_person, .int o_day, .int o_count, .int o_mostz, .int o_leastz])), (o_tried, .inl (ko_tried, 6, .inl fo_tried)), (o_best, .inl (ko_best, 6, .inl fo_bestz))]) (va_A [(o, .inr (1, [.ref o_letters, .ref o_tried, .ref o_best, .int o_known, .int o_weighed, .int o_person, .int o_day, .int o_count, .int o_most, .int o_least])), (o_tried, .inl (ko_tried, 6, .inl fo_tried)), (o_best, .inl (ko_best, 6, .inl fo_best))] sz)) 0 0 (va_A [(o, .inr (1, [.ref o_letters, .ref o_tried, .ref o_best, .int o_known, .int o_weighed, .int o_person, .int o_day, .int o_count, .int o_most, .int o_least])), (o_tried, .inl (ko_tried, 6, .inl fo_tried)), (o_best, .inl (ko_best, 6, .inl fo_best))] sz) := by
  refine Met.ofW (cc := cX1_weigh) (maxL := 2) (ret := none) (by decide) rfl ?_
  intro pr_ en_ s me_ args below meth c s₁ B hml hv
  obtain ⟨rfl, hsz, hP, hK, hD0⟩ := hv
  have hx := B.exec
  have hb := B.bytes
  have hr := B.returns
  have hts0 := atoms_spec (ws := (.code yX1_weigh cX1_weigh 2 none :: ALLW)) B.pre
  have hts := fun (w : Cond) (h : w ∈ ALLW) => hts0 w (List.mem_cons_of_mem _ h)
  have hown : s.vm.findClass RX1 = some me_.cls := findClass_of_methodNamed B.named
  have hlocks := B.notSynchronized
  subst hsz
  have hD := hD0.self (sz := s.heap.size)
  generalize hAe : va_A [(o, .inr (1, [.ref o_letters, .ref o_tried, .ref o_best, .int o_known, .int o_weighed, .int o_person, .int o_day, .int o_count, .int o_most, .int o_least])), (o_tried, .inl (ko_tried, 6, .inl fo_tried)), (o_best, .inl (ko_best, 6, .inl fo_best))] s.heap.size = A at hD ⊢
  have hA : ∀ q : Nat, s.heap.size ≤ q → A q := fun q h => by rw [← hAe]; exact Or.inr h
  have hS : va_S A s.heap s.heap [] := va_S.rf
  have hP : va_P (dC, dI) vwCl [(o, .inr (1, [.ref o_letters, .ref o_tried, .ref o_best, .int o_known, .int o_weighed, .int o_person, .int o_day, .int o_count, .int o_most, .int o_least])), (o_tried, .inl (ko_tried, 6, .inl fo_tried)), (o_best, .inl (ko_best, 6, .inl fo_best))] s.heap := hP
  have hl := lv_entry ([.ref o, .int a]) (n := 2) (Nat.le_of_ble_eq_true rfl)
  rw [lg_entry_eq]
  generalize (lg_sl ([.ref o, .int a]) ++ List.replicate (2 - (lg_sl ([.ref o, .int a])).length) Slot.unset).toArray = ls at hl ⊢
  have hl : lv_has ls 2 [(0, .ref o), (1, .int a)] := hl
  refine gQ (fun Q eQ => ?_)
  refine lv_aload_n hx hb dX1_weigh_0 rfl (lv_at hl 0 rfl) ?_
  refine va_get (D := (dC, dI)) (ci := 1) (v := .int o_weighed) (C := RX1) (T := TX1) (N := 10) hx hb hts inA1 hown hK hP 0 rfl rfl 4 (by decide) (hts _ w_150) (fun _ h9 => h9) rfl dX1_weigh_1 ?_
  have hJ35_8 : ∀ (v_7 : Int32) (f_8 : Nat → Int32) (H : Heap) (locs : List Loc) (ls : Array Slot), va_P (dC, dI) vwCl [(o, .inr (1, [.ref o_letters, .ref o_tried, .ref o_best, .int o_known, .int o_weighed, .int o_person, .int o_day, .int o_count, .int v_7, .int o_least])), (o_tried, .inl (ko_tried, 6, .inl fo_tried)), (o_best, .inl (ko_best, 6, .inl f_8))] H → va_D A [(o, .inr (1, [.ref o_letters, .ref o_tried, .ref o_best, .int o_known, .int o_weighed, .int o_person, .int o_day, .int o_count, .int v_7, .int o_least])), (o_tried, .inl (ko_tried, 6, .inl fo_tried)), (o_best, .inl (ko_best, 6, .inl f_8))] → va_S A s.heap H locs → lv_has ls 2 [(0, .ref o), (1, .int a)] → W pr_ l en_ ({ frames := 1, cells := 0, slots := 0, locals := 64 }) s me_ ([.ref o, .int a]).toArray below meth c H locs 0 0 Q (F0 me_ 35 ls []) := by
    intro v_7 f_8 H locs ls  hP hD hS hl
    refine lv_aload_n hx hb dX1_weigh_35 rfl (lv_at hl 0 rfl) ?_
    refine va_get (D := (dC, dI)) (ci := 1) (v := .int o_weighed) (C := RX1) (T := TX1) (N := 10) hx hb hts inA1 hown hK hP 0 rfl rfl 4 (by decide) (hts _ w_150) (fun _ h9 => h9) rfl dX1_weigh_36 ?_
    refine lv_if_eq (tgt := 50) hx hb dX1_weigh_39 (by decide) (fun c_9 => ?_) (fun c_9 => ?_)
    · have ec_9 := q_eq (a := o_weighed.toInt) (b := 0) rfl (by decide) c_9
      refine lv_aload_n hx hb dX1_weigh_50 rfl (lv_at hl 0 rfl) ?_
      refine lv_iload_n hx hb dX1_weigh_51 rfl (lv_at hl 1 rfl) ?_
      refine va_put (D := (dC, dI)) (ci := 1) (v := .int a) (ty := tyX1 9) (C := RX1) (T := TX1) (N := 10) hx hb hts inA1 tyX1 tyX1_ok nmX1 hown hK hP hD hS 0 rfl rfl 9 (by decide) (hts _ w_155) (fun _ h9 => h9) rfl (tyX1_ok 9 (by decide)) rfl rfl (Nat.le_of_ble_eq_true rfl) dX1_weigh_52 (fun H locs hP hD hS => ?_)
      have hP : va_P (dC, dI) vwCl [(o, .inr (1, [.ref o_letters, .ref o_tried, .ref o_best, .int o_known, .int o_weighed, .int o_person, .int o_day, .int o_count, .int v_7, .int a])), (o_tried, .inl (ko_tried, 6, .inl fo_tried)), (o_best, .inl (ko_best, 6, .inl f_8))] H := hP
      have hD : va_D A [(o, .inr (1, [.ref o_letters, .ref o_tried, .ref o_best, .int o_known, .int o_weighed, .int o_person, .int o_day, .int o_count, .int v_7, .int a])), (o_tried, .inl (ko_tried, 6, .inl fo_tried)), (o_best, .inl (ko_best, 6, .inl f_8))] := hD
      refine lv_aload_n hx hb dX1_weigh_55 rfl (lv_at hl 0 rfl) ?_
      refine lv_iconst (v := 1) hx hb dX1_weigh_56 (by decide) ?_
      refine va_put (D := (dC, dI)) (ci := 1) (v := .int 1) (ty := tyX1 4) (C := RX1) (T := TX1) (N := 10) hx hb hts inA1 tyX1 tyX1_ok nmX1 hown hK hP hD hS 0 rfl rfl 4 (by decide) (hts _ w_150) (fun _ h9 => h9) rfl (tyX1_ok 4 (by decide)) (by decide) (by decide) (Nat.le_of_ble_eq_true rfl) dX1_weigh_57 (fun H locs hP hD hS => ?_)
      have hP : va_P (dC, dI) vwCl [(o, .inr (1, [.ref o_letters, .ref o_tried, .ref o_best, .int o_known, .int 1, .int o_person, .int o_day, .int o_count, .int v_7, .int a])), (o_tried, .inl (ko_tried, 6, .inl fo_tried)), (o_best, .inl (ko_best, 6, .inl f_8))] H := hP
      have hD : va_D A [(o, .inr (1, [.ref o_letters, .ref o_tried, .ref o_best, .int o_known, .int 1, .int o_person, .int o_day, .int o_count, .int v_7, .int a])), (o_tried, .inl (ko_tried, 6, .inl fo_tried)), (o_best, .inl (ko_best, 6, .inl f_8))] := hD
      have hP9 := hP.sub (ws' := [(o, .inr (1, [.ref o_letters, .ref o_tried, .ref o_best, .int o_known, .int 1, .int o_person, .int o_day, .int o_count, .int v_7, .int a])), (o_tried, .inl (ko_tried, 6, .inl fo_tried)), (o_best, .inl (ko_best, 6, .inl f_8))]) [0, 1, 2] rfl
      have hD9 := hD.sub (ws' := [(o, .inr (1, [.ref o_letters, .ref o_tried, .ref o_best, .int o_known, .int 1, .int o_person, .int o_day, .int o_count, .int v_7, .int a])), (o_tried, .inl (ko_tried, 6, .inl fo_tried)), (o_best, .inl (ko_best, 6, .inl f_8))]) [0, 1, 2] (by decide) rfl
      have hK9 := hK.sub (tys' := []) [] rfl
      refine gQe eQ ?_
      exact W.vret hx hb hr (fun t9 ht hW => ⟨⟨(), rfl, trivial, 1, v_7, a, f_8, ⟨by decide, by decide⟩, by rw [ht]; exact hP9, va_K.moved hW.alike hK9, hD9⟩, hS.F ht⟩) hS.2.2 dX1_weigh_60
    · have ec_9 := q_neq (a := o_weighed.toInt) (b := 0) rfl (by decide) c_9
      refine lv_iload_n hx hb dX1_weigh_42 rfl (lv_at hl 1 rfl) ?_
      refine lv_aload_n hx hb dX1_weigh_43 rfl (lv_at hl 0 rfl) ?_
      refine va_get (D := (dC, dI)) (ci := 1) (v := .int o_least) (C := RX1) (T := TX1) (N := 10) hx hb hts inA1 hown hK hP 0 rfl rfl 9 (by decide) (hts _ w_155) (fun _ h9 => h9) rfl dX1_weigh_44 ?_
      have rg_11 := q_rng a
      have rg_12 := q_rng o_least
      refine lv_icmp_ge (tgt := 55) hx hb dX1_weigh_47 (by decide) (fun c_10 => ?_) (fun c_10 => ?_)
      · have ec_10 := q_ge (a := a.toInt) (b := o_least.toInt) rfl rfl c_10
        refine lv_aload_n hx hb dX1_weigh_55 rfl (lv_at hl 0 rfl) ?_
        refine lv_iconst (v := 1) hx hb dX1_weigh_56 (by decide) ?_
        refine va_put (D := (dC, dI)) (ci := 1) (v := .int 1) (ty := tyX1 4) (C := RX1) (T := TX1) (N := 10) hx hb hts inA1 tyX1 tyX1_ok nmX1 hown hK hP hD hS 0 rfl rfl 4 (by decide) (hts _ w_150) (fun _ h9 => h9) rfl (tyX1_ok 4 (by decide)) (by decide) (by decide) (Nat.le_of_ble_eq_true rfl) dX1_weigh_57 (fun H locs hP hD hS => ?_)
        have hP : va_P (dC, dI) vwCl [(o, .inr (1, [.ref o_letters, .ref o_tried, .ref o_best, .int o_known, .int 1, .int o_person, .int o_day, .int o_count, .int v_7, .int o_least])), (o_tried, .inl (ko_tried, 6, .inl fo_tried)), (o_best, .inl (ko_best, 6, .inl f_8))] H := hP
        have hD : va_D A [(o, .inr (1, [.ref o_letters, .ref o_tried, .ref o_best, .int o_known, .int 1, .int o_person, .int o_day, .int o_count, .int v_7, .int o_least])), (o_tried, .inl (ko_tried, 6, .inl fo_tried)), (o_best, .inl (ko_best, 6, .inl f_8))] := hD
        have hP9 := hP.sub (ws' := [(o, .inr (1, [.ref o_letters, .ref o_tried, .ref o_best, .int o_known, .int 1, .int o_person, .int o_day, .int o_count, .int v_7, .int o_least])), (o_tried, .inl (ko_tried, 6, .inl fo_tried)), (o_best, .inl (ko_best, 6, .inl f_8))]) [0, 1, 2] rfl
        have hD9 := hD.sub (ws' := [(o, .inr (1, [.ref o_letters, .ref o_tried, .ref o_best, .int o_known, .int 1, .int o_person, .int o_day, .int o_count, .int v_7, .int o_least])), (o_tried, .inl (ko_tried, 6, .inl fo_tried)), (o_best, .inl (ko_best, 6, .inl f_8))]) [0, 1, 2] (by decide) rfl
        have hK9 := hK.sub (tys' := []) [] rfl
        refine gQe eQ ?_
        exact W.vret hx hb hr (fun t9 ht hW => ⟨⟨(), rfl, trivial, 1, v_7, o_least, f_8, ⟨by decide, by decide⟩, by rw [ht]; exact hP9, va_K.moved hW.alike hK9, hD9⟩, hS.F ht⟩) hS.2.2 dX1_weigh_60
      · have ec_10 := q_nge (a := a.toInt) (b := o_least.toInt) rfl rfl c_10
        refine lv_aload_n hx hb dX1_weigh_50 rfl (lv_at hl 0 rfl) ?_
        refine lv_iload_n hx hb dX1_weigh_51 rfl (lv_at hl 1 rfl) ?_
        refine va_put (D := (dC, dI)) (ci := 1) (v := .int a) (ty := tyX1 9) (C := RX1) (T := TX1) (N := 10) hx hb hts inA1 tyX1 tyX1_ok nmX1 hown hK hP hD hS 0 rfl rfl 9 (by decide) (hts _ w_155) (fun _ h9 => h9) rfl (tyX1_ok 9 (by decide)) rfl rfl (Nat.le_of_ble_eq_true rfl) dX1_weigh_52 (fun H locs hP hD hS => ?_)
        have hP : va_P (dC, dI) vwCl [(o, .inr (1, [.ref o_letters, .ref o_tried, .ref o_best, .int o_known, .int o_weighed, .int o_person, .int o_day, .int o_count, .int v_7, .int a])), (o_tried, .inl (ko_tried, 6, .inl fo_tried)), (o_best, .inl (ko_best, 6, .inl f_8))] H := hP
        have hD : va_D A [(o, .inr (1, [.ref o_letters, .ref o_tried, .ref o_best, .int o_known, .int o_weighed, .int o_person, .int o_day, .int o_count, .int v_7, .int a])), (o_tried, .inl (ko_tried, 6, .inl fo_tried)), (o_best, .inl (ko_best, 6, .inl f_8))] := hD
        refine lv_aload_n hx hb dX1_weigh_55 rfl (lv_at hl 0 rfl) ?_
        refine lv_iconst (v := 1) hx hb dX1_weigh_56 (by decide) ?_
        refine va_put (D := (dC, dI)) (ci := 1) (v := .int 1) (ty := tyX1 4) (C := RX1) (T := TX1) (N := 10) hx hb hts inA1 tyX1 tyX1_ok nmX1 hown hK hP hD hS 0 rfl rfl 4 (by decide) (hts _ w_150) (fun _ h9 => h9) rfl (tyX1_ok 4 (by decide)) (by decide) (by decide) (Nat.le_of_ble_eq_true rfl) dX1_weigh_57 (fun H locs hP hD hS => ?_)
        have hP : va_P (dC, dI) vwCl [(o, .inr (1, [.ref o_letters, .ref o_tried, .ref o_best, .int o_known, .int 1, .int o_person, .int o_day, .int o_count, .int v_7, .int a])), (o_tried, .inl (ko_tried, 6, .inl fo_tried)), (o_best, .inl (ko_best, 6, .inl f_8))] H := hP
        have hD : va_D A [(o, .inr (1, [.ref o_letters, .ref o_tried, .ref o_best, .int o_known, .int 1, .int o_person, .int o_day, .int o_count, .int v_7, .int a])), (o_tried, .inl (ko_tried, 6, .inl fo_tried)), (o_best, .inl (ko_best, 6, .inl f_8))] := hD
        have hP9 := hP.sub (ws' := [(o, .inr (1, [.ref o_letters, .ref o_tried, .ref o_best, .int o_known, .int 1, .int o_person, .int o_day, .int o_count, .int v_7, .int a])), (o_tried, .inl (ko_tried, 6, .inl fo_tried)), (o_best, .inl (ko_best, 6, .inl f_8))]) [0, 1, 2] rfl
        have hD9 := hD.sub (ws' := [(o, .inr (1, [.ref o_letters, .ref o_tried, .ref o_best, .int o_known, .int 1, .int o_person, .int o_day, .int o_count, .int v_7, .int a])), (o_tried, .inl (ko_tried, 6, .inl fo_tried)), (o_best, .inl (ko_best, 6, .inl f_8))]) [0, 1, 2] (by decide) rfl
        have hK9 := hK.sub (tys' := []) [] rfl
        refine gQe eQ ?_
        exact W.vret hx hb hr (fun t9 ht hW => ⟨⟨(), rfl, trivial, 1, v_7, a, f_8, ⟨by decide, by decide⟩, by rw [ht]; exact hP9, va_K.moved hW.alike hK9, hD9⟩, hS.F ht⟩) hS.2.2 dX1_weigh_60
  refine lv_if_eq (tgt := 15) hx hb dX1_weigh_4 (by decide) (fun c_1 => ?_) (fun c_1 => ?_)
  · have ec_1 := q_eq (a := o_weighed.toInt) (b := 0) rfl (by decide) c_1
    refine lv_aload_n hx hb dX1_weigh_15 rfl (lv_at hl 0 rfl) ?_
    refine lv_iload_n hx hb dX1_weigh_16 rfl (lv_at hl 1 rfl) ?_
    refine va_put (D := (dC, dI)) (ci := 1) (v := .int a) (ty := tyX1 8) (C := RX1) (T := TX1) (N := 10) hx hb hts inA1 tyX1 tyX1_ok nmX1 hown hK hP hD hS 0 rfl rfl 8 (by decide) (hts _ w_154) (fun _ h9 => h9) rfl (tyX1_ok 8 (by decide)) rfl rfl (Nat.le_of_ble_eq_true rfl) dX1_weigh_17 (fun H locs hP hD hS => ?_)
    have hP : va_P (dC, dI) vwCl [(o, .inr (1, [.ref o_letters, .ref o_tried, .ref o_best, .int o_known, .int o_weighed, .int o_person, .int o_day, .int o_count, .int a, .int o_least])), (o_tried, .inl (ko_tried, 6, .inl fo_tried)), (o_best, .inl (ko_best, 6, .inl fo_best))] H := hP
    have hD : va_D A [(o, .inr (1, [.ref o_letters, .ref o_tried, .ref o_best, .int o_known, .int o_weighed, .int o_person, .int o_day, .int o_count, .int a, .int o_least])), (o_tried, .inl (ko_tried, 6, .inl fo_tried)), (o_best, .inl (ko_best, 6, .inl fo_best))] := hD
    refine lv_aload_n hx hb dX1_weigh_20 rfl (lv_at hl 0 rfl) ?_
    refine va_get (D := (dC, dI)) (ci := 1) (v := .ref o_tried) (C := RX1) (T := TX1) (N := 10) hx hb hts inA1 hown hK hP 0 rfl rfl 1 (by decide) (hts _ w_147) (fun _ h9 => h9) rfl dX1_weigh_21 ?_
    refine lv_iconst (v := 0) hx hb dX1_weigh_24 (by decide) ?_
    refine lv_aload_n hx hb dX1_weigh_25 rfl (lv_at hl 0 rfl) ?_
    refine va_get (D := (dC, dI)) (ci := 1) (v := .ref o_best) (C := RX1) (T := TX1) (N := 10) hx hb hts inA1 hown hK hP 0 rfl rfl 2 (by decide) (hts _ w_148) (fun _ h9 => h9) rfl dX1_weigh_26 ?_
    refine lv_iconst (v := 0) hx hb dX1_weigh_29 (by decide) ?_
    refine lv_bipush (v := 6) hx hb dX1_weigh_30 (by decide) ?_
    refine va_copyi hx hb (hml.trans hl.1.symm) hown (hts _ w_1090) (hts _ w_390) (hts _ w_391) (hts _ w_392) hK hP hD hS 1 2 0 1 rfl rfl rfl rfl rfl (by decide) (by decide) (by decide) (by decide +kernel) (by decide +kernel) (fun _ _ => rfl) (Nat.le_of_ble_eq_true rfl) (Nat.le_of_ble_eq_true rfl) dX1_weigh_32 (fun H locs hP hD hS => ?_)
    generalize ef_13 : va_cpy fo_tried fo_best (0 : Int32).toNatClampNeg (0 : Int32).toNatClampNeg (6 : Int32).toNatClampNeg = f_13 at hP hD
    have hP : va_P (dC, dI) vwCl [(o, .inr (1, [.ref o_letters, .ref o_tried, .ref o_best, .int o_known, .int o_weighed, .int o_person, .int o_day, .int o_count, .int a, .int o_least])), (o_tried, .inl (ko_tried, 6, .inl fo_tried)), (o_best, .inl (ko_best, 6, .inl f_13))] H := hP
    have hD : va_D A [(o, .inr (1, [.ref o_letters, .ref o_tried, .ref o_best, .int o_known, .int o_weighed, .int o_person, .int o_day, .int o_count, .int a, .int o_least])), (o_tried, .inl (ko_tried, 6, .inl fo_tried)), (o_best, .inl (ko_best, 6, .inl f_13))] := hD
    exact hJ35_8 a f_13 H locs ls   hP hD hS hl
  · have ec_1 := q_neq (a := o_weighed.toInt) (b := 0) rfl (by decide) c_1
    refine lv_iload_n hx hb dX1_weigh_7 rfl (lv_at hl 1 rfl) ?_
    refine lv_aload_n hx hb dX1_weigh_8 rfl (lv_at hl 0 rfl) ?_
    refine va_get (D := (dC, dI)) (ci := 1) (v := .int o_most) (C := RX1) (T := TX1) (N := 10) hx hb hts inA1 hown hK hP 0 rfl rfl 8 (by decide) (hts _ w_154) (fun _ h9 => h9) rfl dX1_weigh_9 ?_
    have rg_15 := q_rng a
    have rg_16 := q_rng o_most
    refine lv_icmp_le (tgt := 35) hx hb dX1_weigh_12 (by decide) (fun c_14 => ?_) (fun c_14 => ?_)
    · have ec_14 := q_le (a := a.toInt) (b := o_most.toInt) rfl rfl c_14
      exact hJ35_8 o_most fo_best s.heap [] ls   hP hD hS hl
    · have ec_14 := q_nle (a := a.toInt) (b := o_most.toInt) rfl rfl c_14
      refine lv_aload_n hx hb dX1_weigh_15 rfl (lv_at hl 0 rfl) ?_
      refine lv_iload_n hx hb dX1_weigh_16 rfl (lv_at hl 1 rfl) ?_
      refine va_put (D := (dC, dI)) (ci := 1) (v := .int a) (ty := tyX1 8) (C := RX1) (T := TX1) (N := 10) hx hb hts inA1 tyX1 tyX1_ok nmX1 hown hK hP hD hS 0 rfl rfl 8 (by decide) (hts _ w_154) (fun _ h9 => h9) rfl (tyX1_ok 8 (by decide)) rfl rfl (Nat.le_of_ble_eq_true rfl) dX1_weigh_17 (fun H locs hP hD hS => ?_)
      have hP : va_P (dC, dI) vwCl [(o, .inr (1, [.ref o_letters, .ref o_tried, .ref o_best, .int o_known, .int o_weighed, .int o_person, .int o_day, .int o_count, .int a, .int o_least])), (o_tried, .inl (ko_tried, 6, .inl fo_tried)), (o_best, .inl (ko_best, 6, .inl fo_best))] H := hP
      have hD : va_D A [(o, .inr (1, [.ref o_letters, .ref o_tried, .ref o_best, .int o_known, .int o_weighed, .int o_person, .int o_day, .int o_count, .int a, .int o_least])), (o_tried, .inl (ko_tried, 6, .inl fo_tried)), (o_best, .inl (ko_best, 6, .inl fo_best))] := hD
      refine lv_aload_n hx hb dX1_weigh_20 rfl (lv_at hl 0 rfl) ?_
      refine va_get (D := (dC, dI)) (ci := 1) (v := .ref o_tried) (C := RX1) (T := TX1) (N := 10) hx hb hts inA1 hown hK hP 0 rfl rfl 1 (by decide) (hts _ w_147) (fun _ h9 => h9) rfl dX1_weigh_21 ?_
      refine lv_iconst (v := 0) hx hb dX1_weigh_24 (by decide) ?_
      refine lv_aload_n hx hb dX1_weigh_25 rfl (lv_at hl 0 rfl) ?_
      refine va_get (D := (dC, dI)) (ci := 1) (v := .ref o_best) (C := RX1) (T := TX1) (N := 10) hx hb hts inA1 hown hK hP 0 rfl rfl 2 (by decide) (hts _ w_148) (fun _ h9 => h9) rfl dX1_weigh_26 ?_
      refine lv_iconst (v := 0) hx hb dX1_weigh_29 (by decide) ?_
      refine lv_bipush (v := 6) hx hb dX1_weigh_30 (by decide) ?_
      refine va_copyi hx hb (hml.trans hl.1.symm) hown (hts _ w_1090) (hts _ w_390) (hts _ w_391) (hts _ w_392) hK hP hD hS 1 2 0 1 rfl rfl rfl rfl rfl (by decide) (by decide) (by decide) (by decide +kernel) (by decide +kernel) (fun _ _ => rfl) (Nat.le_of_ble_eq_true rfl) (Nat.le_of_ble_eq_true rfl) dX1_weigh_32 (fun H locs hP hD hS => ?_)
      generalize ef_17 : va_cpy fo_tried fo_best (0 : Int32).toNatClampNeg (0 : Int32).toNatClampNeg (6 : Int32).toNatClampNeg = f_17 at hP hD
      have hP : va_P (dC, dI) vwCl [(o, .inr (1, [.ref o_letters, .ref o_tried, .ref o_best, .int o_known, .int o_weighed, .int o_person, .int o_day, .int o_count, .int a, .int o_least])), (o_tried, .inl (ko_tried, 6, .inl fo_tried)), (o_best, .inl (ko_best, 6, .inl f_17))] H := hP
      have hD : va_D A [(o, .inr (1, [.ref o_letters, .ref o_tried, .ref o_best, .int o_known, .int o_weighed, .int o_person, .int o_day, .int o_count, .int a, .int o_least])), (o_tried, .inl (ko_tried, 6, .inl fo_tried)), (o_best, .inl (ko_best, 6, .inl f_17))] := hD
      exact hJ35_8 a f_17 H locs ls   hP hD hS hl
set_option maxHeartbeats 4000000 in
set_option maxRecDepth 100000 in
theorem o_next (l : Launch) (dC : Nat → ClassId) (dI : Nat → Nat → Nat) (sz : Nat) (o : Nat) (o_letters : Nat) (o_tried : Nat) (o_best : Nat) (o_known : Int32) (o_weighed : Int32) (o_person : Int32) (o_day : Int32) (o_count : Int32) (o_most : Int32) (o_least : Int32) (ko_tried : ClassId) (fo_tried : Nat → Int32) (b_o_known : (0) ≤ o_known.toInt ∧ o_known.toInt ≤ 1) (b_o_weighed : (0) ≤ o_weighed.toInt ∧ o_weighed.toInt ≤ 1) (b_o_count : (0) ≤ o_count.toInt ∧ o_count.toInt ≤ 6) (g_fo_tried : bd (0) (23) fo_tried) : Met l yX1_next (.code yX1_next cX1_next 5 (some .boolean) :: ALLW) ({ frames := 1, cells := 0, slots := 0, locals := 23 }) (va_Pc [.ref o] (fun U => U.heap.size = sz ∧ va_P (dC, dI) vwCl [(o, .inr (1, [.ref o_letters, .ref o_tried, .ref o_best, .int o_known, .int o_weighed, .int o_person, .int o_day, .int o_count, .int o_most, .int o_least])), (o_tried, .inl (ko_tried, 6, .inl fo_tried))] U.heap ∧ va_K (dC, dI) vwCl [(ko_tried, .int)] U ∧ va_D (fun _ => True) [(o, .inr (1, [.ref o_letters, .ref o_tried, .ref o_best, .int o_known, .int o_weighed, .int o_person, .int o_day, .int o_count, .int o_most, .int o_least])), (o_tried, .inl (ko_tried, 6, .inl fo_tried))])) (va_Qi (fun (r u : Int32) => r = u) (fun (u : Int32) (t9 : State) => ∃ (fo_triedz : Nat → Int32), (bd (0) (23) fo_triedz) ∧ ((0) ≤ u.toInt ∧ u.toInt ≤ 1) ∧ va_P (dC, dI) vwCl [(o, .inr (1, [.ref o_letters, .ref o_tried, .ref o_best, .int o_known, .int o_weighed, .int o_person, .int o_day, .int o_count, .int o_most, .int o_least])), (o_tried, .inl (ko_tried, 6, .inl fo_triedz))] t9.heap ∧ va_K (dC, dI) vwCl [] t9 ∧ va_D (va_A [(o, .inr (1, [.ref o_letters, .ref o_tried, .ref o_best, .int o_known, .int o_weighed, .int o_person, .int o_day, .int o_count, .int o_most, .int o_least])), (o_tried, .inl (ko_tried, 6, .inl fo_tried))] sz) [(o, .inr (1, [.ref o_letters, .ref o_tried, .ref o_best, .int o_known, .int o_weighed, .int o_person, .int o_day, .int o_count, .int o_most, .int o_least])), (o_tried, .inl (ko_tried, 6, .inl fo_triedz))]) (va_A [(o, .inr (1, [.ref o_letters, .ref o_tried, .ref o_best, .int o_known, .int o_weighed, .int o_person, .int o_day, .int o_count, .int o_most, .int o_least])), (o_tried, .inl (ko_tried, 6, .inl fo_tried))] sz)) 0 0 (va_A [(o, .inr (1, [.ref o_letters, .ref o_tried, .ref o_best, .int o_known, .int o_weighed, .int o_person, .int o_day, .int o_count, .int o_most, .int o_least])), (o_tried, .inl (ko_tried, 6, .inl fo_tried))] sz) := by
  refine Met.ofW (cc := cX1_next) (maxL := 5) (ret := (some .boolean)) (by decide) rfl ?_
  intro pr_ en_ s me_ args below meth c s₁ B hml hv
  obtain ⟨rfl, hsz, hP, hK, hD0⟩ := hv
  have hx := B.exec
  have hb := B.bytes
  have hr := B.returns
  have hts0 := atoms_spec (ws := (.code yX1_next cX1_next 5 (some .boolean) :: ALLW)) B.pre
  have hts := fun (w : Cond) (h : w ∈ ALLW) => hts0 w (List.mem_cons_of_mem _ h)
  have hown : s.vm.findClass RX1 = some me_.cls := findClass_of_methodNamed B.named
  have hlocks := B.notSynchronized
  subst hsz
  have hD := hD0.self (sz := s.heap.size)
  generalize hAe : va_A [(o, .inr (1, [.ref o_letters, .ref o_tried, .ref o_best, .int o_known, .int o_weighed, .int o_person, .int o_day, .int o_count, .int o_most, .int o_least])), (o_tried, .inl (ko_tried, 6, .inl fo_tried))] s.heap.size = A at hD ⊢
  have hA : ∀ q : Nat, s.heap.size ≤ q → A q := fun q h => by rw [← hAe]; exact Or.inr h
  have hS : va_S A s.heap s.heap [] := va_S.rf
  have hP : va_P (dC, dI) vwCl [(o, .inr (1, [.ref o_letters, .ref o_tried, .ref o_best, .int o_known, .int o_weighed, .int o_person, .int o_day, .int o_count, .int o_most, .int o_least])), (o_tried, .inl (ko_tried, 6, .inl fo_tried))] s.heap := hP
  have hl := lv_entry ([.ref o]) (n := 5) (Nat.le_of_ble_eq_true rfl)
  rw [lg_entry_eq]
  generalize (lg_sl ([.ref o]) ++ List.replicate (5 - (lg_sl ([.ref o])).length) Slot.unset).toArray = ls at hl ⊢
  have hl : lv_has ls 5 [(0, .ref o)] := hl
  refine gQ (fun Q eQ => ?_)
  refine lv_aload_n hx hb dX1_next_0 rfl (lv_at hl 0 rfl) ?_
  refine va_get (D := (dC, dI)) (ci := 1) (v := .int o_count) (C := RX1) (T := TX1) (N := 10) hx hb hts inA1 hown hK hP 0 rfl rfl 7 (by decide) (hts _ w_153) (fun _ h9 => h9) rfl dX1_next_1 ?_
  refine lv_iconst (v := 2) hx hb dX1_next_4 (by decide) ?_
  refine lv_isub hx hb dX1_next_5 ?_
  refine lv_topi (fun x_1 ex_1 => ?_)
  have b_x_1 := q_sub (a := o_count.toInt) (b := 2) ex_1 rfl (by decide) (by omega) (by omega)
  refine lv_istore_n (lv' := [(1, .int x_1), (0, .ref o)]) hx hb dX1_next_6 rfl hl (by decide) rfl (fun ls hl => ?_)
  have hL7_26 : ∀ (k : Nat) (v_8 : Int32) (H : Heap) (locs : List Loc) (ls : Array Slot), (v_8.toInt - (-2)).toNat < k → ((-2) ≤ v_8.toInt ∧ v_8.toInt ≤ 4) → (v_8.toInt ≤ o_count.toInt - 2) → va_P (dC, dI) vwCl [(o, .inr (1, [.ref o_letters, .ref o_tried, .ref o_best, .int o_known, .int o_weighed, .int o_person, .int o_day, .int o_count, .int o_most, .int o_least])), (o_tried, .inl (ko_tried, 6, .inl fo_tried))] H → va_D A [(o, .inr (1, [.ref o_letters, .ref o_tried, .ref o_best, .int o_known, .int o_weighed, .int o_person, .int o_day, .int o_count, .int o_most, .int o_least])), (o_tried, .inl (ko_tried, 6, .inl fo_tried))] → va_S A s.heap H locs → lv_has ls 5 [(0, .ref o), (1, .int v_8)] → W pr_ l en_ ({ frames := 1, cells := 0, slots := 0, locals := 23 }) s me_ ([.ref o]).toArray below meth c H locs 0 0 Q (F0 me_ 7 ls []) := by
    intro k
    induction k with
    | zero => intro v_8 H locs ls hmu; exact absurd hmu (Nat.not_lt_zero _)
    | succ k ih7_26 =>
      intro v_8 H locs ls hmu7 b_v_8 kp7 hP hD hS hl
      refine lv_iload_n hx hb dX1_next_7 rfl (lv_at hl 1 rfl) ?_
      have hJ34_32 : ∀  (H : Heap) (locs : List Loc) (ls : Array Slot), va_P (dC, dI) vwCl [(o, .inr (1, [.ref o_letters, .ref o_tried, .ref o_best, .int o_known, .int o_weighed, .int o_person, .int o_day, .int o_count, .int o_most, .int o_least])), (o_tried, .inl (ko_tried, 6, .inl fo_tried))] H → va_D A [(o, .inr (1, [.ref o_letters, .ref o_tried, .ref o_best, .int o_known, .int o_weighed, .int o_person, .int o_day, .int o_count, .int o_most, .int o_least])), (o_tried, .inl (ko_tried, 6, .inl fo_tried))] → va_S A s.heap H locs → lv_has ls 5 [(0, .ref o), (1, .int v_8)] → W pr_ l en_ ({ frames := 1, cells := 0, slots := 0, locals := 23 }) s me_ ([.ref o]).toArray below meth c H locs 0 0 Q (F0 me_ 34 ls []) := by
        intro  H locs ls  hP hD hS hl
        refine lv_iload_n hx hb dX1_next_34 rfl (lv_at hl 1 rfl) ?_
        refine lv_if_ge (tgt := 40) hx hb dX1_next_35 (by decide) (fun c_33 => ?_) (fun c_33 => ?_)
        · have ec_33 := q_ge (a := v_8.toInt) (b := 0) rfl (by decide) c_33
          refine lv_aload_n hx hb dX1_next_40 rfl (lv_at hl 0 rfl) ?_
          refine va_get (D := (dC, dI)) (ci := 1) (v := .int o_count) (C := RX1) (T := TX1) (N := 10) hx hb hts inA1 hown hK hP 0 rfl rfl 7 (by decide) (hts _ w_153) (fun _ h9 => h9) rfl dX1_next_41 ?_
          refine lv_iconst (v := 1) hx hb dX1_next_44 (by decide) ?_
          refine lv_isub hx hb dX1_next_45 ?_
          refine lv_topi (fun x_34 ex_34 => ?_)
          have b_x_34 := q_sub (a := o_count.toInt) (b := 1) ex_34 rfl (by decide) (by omega) (by omega)
          refine lv_istore_n (lv' := [(2, .int x_34), (0, .ref o), (1, .int v_8)]) hx hb dX1_next_46 rfl hl (by decide) rfl (fun ls hl => ?_)
          have hL47_55 : ∀ (k : Nat) (v_40 : Int32) (H : Heap) (locs : List Loc) (ls : Array Slot), (v_40.toInt - (-1)).toNat < k → ((-1) ≤ v_40.toInt ∧ v_40.toInt ≤ 5) → (v_8.toInt ≤ v_40.toInt) → va_P (dC, dI) vwCl [(o, .inr (1, [.ref o_letters, .ref o_tried, .ref o_best, .int o_known, .int o_weighed, .int o_person, .int o_day, .int o_count, .int o_most, .int o_least])), (o_tried, .inl (ko_tried, 6, .inl fo_tried))] H → va_D A [(o, .inr (1, [.ref o_letters, .ref o_tried, .ref o_best, .int o_known, .int o_weighed, .int o_person, .int o_day, .int o_count, .int o_most, .int o_least])), (o_tried, .inl (ko_tried, 6, .inl fo_tried))] → va_S A s.heap H locs → lv_has ls 5 [(0, .ref o), (1, .int v_8), (2, .int v_40)] → W pr_ l en_ ({ frames := 1, cells := 0, slots := 0, locals := 23 }) s me_ ([.ref o]).toArray below meth c H locs 0 0 Q (F0 me_ 47 ls []) := by
            intro k
            induction k with
            | zero => intro v_40 H locs ls hmu; exact absurd hmu (Nat.not_lt_zero _)
            | succ k ih47_55 =>
              intro v_40 H locs ls hmu47 b_v_40 kp47 hP hD hS hl
              refine lv_iload_n hx hb dX1_next_47 rfl (lv_at hl 2 rfl) ?_
              refine lv_iload_n hx hb dX1_next_48 rfl (lv_at hl 1 rfl) ?_
              have hJ73_60 : ∀  (H : Heap) (locs : List Loc) (ls : Array Slot), va_P (dC, dI) vwCl [(o, .inr (1, [.ref o_letters, .ref o_tried, .ref o_best, .int o_known, .int o_weighed, .int o_person, .int o_day, .int o_count, .int o_most, .int o_least])), (o_tried, .inl (ko_tried, 6, .inl fo_tried))] H → va_D A [(o, .inr (1, [.ref o_letters, .ref o_tried, .ref o_best, .int o_known, .int o_weighed, .int o_person, .int o_day, .int o_count, .int o_most, .int o_least])), (o_tried, .inl (ko_tried, 6, .inl fo_tried))] → va_S A s.heap H locs → lv_has ls 5 [(0, .ref o), (1, .int v_8), (2, .int v_40)] → W pr_ l en_ ({ frames := 1, cells := 0, slots := 0, locals := 23 }) s me_ ([.ref o]).toArray below meth c H locs 0 0 Q (F0 me_ 73 ls []) := by
                intro  H locs ls  hP hD hS hl
                refine lv_aload_n hx hb dX1_next_73 rfl (lv_at hl 0 rfl) ?_
                refine lv_iload_n hx hb dX1_next_74 rfl (lv_at hl 1 rfl) ?_
                have b_v_40 : (0) ≤ v_40.toInt ∧ v_40.toInt ≤ 5 := ⟨by omega, by omega⟩
                refine lv_iload_n hx hb dX1_next_75 rfl (lv_at hl 2 rfl) ?_
                have bq_61 : (0) ≤ v_8.toInt ∧ v_8.toInt ≤ 5 := ⟨by omega, by omega⟩
                have hPc := hP.sub (ws' := [(o, .inr (1, [.ref o_letters, .ref o_tried, .ref o_best, .int o_known, .int o_weighed, .int o_person, .int o_day, .int o_count, .int o_most, .int o_least])), (o_tried, .inl (ko_tried, 6, .inl fo_tried))]) [0, 1] rfl
                have hDc := hD.sub (ws' := [(o, .inr (1, [.ref o_letters, .ref o_tried, .ref o_best, .int o_known, .int o_weighed, .int o_person, .int o_day, .int o_count, .int o_most, .int o_least])), (o_tried, .inl (ko_tried, 6, .inl fo_tried))]) [0, 1] (by decide) rfl
                have hKc := hK.sub (tys' := [(ko_tried, .int)]) [0] rfl
                have hFc := va_free (wc := [(o, .inr (1, [.ref o_letters, .ref o_tried, .ref o_best, .int o_known, .int o_weighed, .int o_person, .int o_day, .int o_count, .int o_most, .int o_least])), (o_tried, .inl (ko_tried, 6, .inl fo_tried))]) hD hS hA [0, 1] rfl
                refine va_callv (va_runV (As := [.int v_8, .int v_40]) (rest := []) ⟨hx, hb, hml, hown, hts⟩ (o_swap l dC dI H.size o v_8 v_40 o_letters o_tried o_best o_known o_weighed o_person o_day o_count o_most o_least ko_tried fo_tried bq_61 b_v_40 b_o_known b_o_weighed b_o_count g_fo_tried) (cwV 2 hts (goodV w_1095 w_1096 w_1097 w_45 w_1098) rfl rfl rfl hdV_X1_swap ⟨Nat.le_of_ble_eq_true rfl, Nat.le_of_ble_eq_true rfl⟩) ⟨fun a U g mk q => by obtain ⟨q0, q1, qP, qK, qD⟩ := q; exact ⟨q0, q1, qP, va_K.moved (u := U) (U := U.calling g mk a) (Vm.Alike.refl U.vm) qK, qD⟩, va_recv hKc hPc (ci := 1) (q0 := 0) rfl rfl, fun U hU hW => ⟨rfl, by rw [hU], by rw [hU]; exact hPc, va_K.moved hW.alike hKc, hDc.weaken (fun _ _ _ _ => trivial)⟩⟩ rfl rfl hl.1 rfl (lv_room (Nat.le_of_ble_eq_true rfl)) dX1_next_76 ⟨Nat.le_of_ble_eq_true rfl, Nat.le_of_ble_eq_true rfl⟩) hS (fun q _ h => hFc q h) hFc (fun u9 t9 H1 locs ht hvm hw hB hz1 hk1 hS => ?_)
                obtain ⟨f_63, g_f_63, hP1, hK1, hD1⟩ := hB
                rw [ht] at hP1
                have hK1 := va_K.moved hvm.symm hK1
                obtain ⟨hP, hD⟩ := va_join (wr := []) (w1 := [(o, .inr (1, [.ref o_letters, .ref o_tried, .ref o_best, .int o_known, .int o_weighed, .int o_person, .int o_day, .int o_count, .int o_most, .int o_least])), (o_tried, .inl (ko_tried, 6, .inl f_63))]) hP hD [0, 1] [] rfl rfl (by decide) (by decide) hk1 hFc hP1 hD1
                clear hPc hDc hKc hFc hz1 hk1 hP1 hD1 hK1
                generalize H1 = H at hP hS ⊢
                have hP : va_P (dC, dI) vwCl [(o, .inr (1, [.ref o_letters, .ref o_tried, .ref o_best, .int o_known, .int o_weighed, .int o_person, .int o_day, .int o_count, .int o_most, .int o_least])), (o_tried, .inl (ko_tried, 6, .inl f_63))] H := hP
                have hD : va_D A [(o, .inr (1, [.ref o_letters, .ref o_tried, .ref o_best, .int o_known, .int o_weighed, .int o_person, .int o_day, .int o_count, .int o_most, .int o_least])), (o_tried, .inl (ko_tried, 6, .inl f_63))] := hD
                refine lv_iload_n hx hb dX1_next_79 rfl (lv_at hl 1 rfl) ?_
                refine lv_iconst (v := 1) hx hb dX1_next_80 (by decide) ?_
                refine lv_iadd hx hb dX1_next_81 ?_
                refine lv_topi (fun x_64 ex_64 => ?_)
                have b_x_64 := q_add (a := v_8.toInt) (b := 1) ex_64 rfl (by decide) (by omega) (by omega)
                refine lv_istore_n (lv' := [(3, .int x_64), (0, .ref o), (1, .int v_8), (2, .int v_40)]) hx hb dX1_next_82 rfl hl (by decide) rfl (fun ls hl => ?_)
                refine lv_aload_n hx hb dX1_next_83 rfl (lv_at hl 1 rfl) ?_
                refine va_get (D := (dC, dI)) (ci := 1) (v := .int o_count) (C := RX1) (T := TX1) (N := 10) hx hb hts inA1 hown hK hP 0 rfl rfl 7 (by decide) (hts _ w_153) (fun _ h9 => h9) rfl dX1_next_84 ?_
                refine lv_iconst (v := 1) hx hb dX1_next_87 (by decide) ?_
                refine lv_isub hx hb dX1_next_88 ?_
                refine lv_topi (fun x_65 ex_65 => ?_)
                rw [show x_65 = x_34 from ex_65.trans ex_34.symm]
                clear ex_65 x_65
                refine lv_istore (lv' := [(4, .int x_34), (3, .int x_64), (0, .ref o), (1, .int v_8), (2, .int v_40)]) hx hb dX1_next_89 hl (by decide) rfl (fun ls hl => ?_)
                have hL91_88 : ∀ (k : Nat) (v_71 : Int32) (v_72 : Int32) (f_73 : Nat → Int32) (H : Heap) (locs : List Loc) (ls : Array Slot), (5 - v_71.toInt).toNat < k → ((1) ≤ v_71.toInt ∧ v_71.toInt ≤ 5) → ((-1) ≤ v_72.toInt ∧ v_72.toInt ≤ 5) → (bd (0) (23) f_73) → va_P (dC, dI) vwCl [(o, .inr (1, [.ref o_letters, .ref o_tried, .ref o_best, .int o_known, .int o_weighed, .int o_person, .int o_day, .int o_count, .int o_most, .int o_least])), (o_tried, .inl (ko_tried, 6, .inl f_73))] H → va_D A [(o, .inr (1, [.ref o_letters, .ref o_tried, .ref o_best, .int o_known, .int o_weighed, .int o_person, .int o_day, .int o_count, .int o_most, .int o_least])), (o_tried, .inl (ko_tried, 6, .inl f_73))] → va_S A s.heap H locs → lv_has ls 5 [(0, .ref o), (3, .int v_71), (4, .int v_72)] → W pr_ l en_ ({ frames := 1, cells := 0, slots := 0, locals := 23 }) s me_ ([.ref o]).toArray below meth c H locs 0 0 Q (F0 me_ 91 ls []) := by
                  intro k
                  induction k with
                  | zero => intro v_71 v_72 f_73 H locs ls hmu; exact absurd hmu (Nat.not_lt_zero _)
                  | succ k ih91_88 =>
                    intro v_71 v_72 f_73 H locs ls hmu91 b_v_71 b_v_72 g_f_73 hP hD hS hl
                    refine lv_iload_n hx hb dX1_next_91 rfl (lv_at hl 1 rfl) ?_
                    refine lv_iload hx hb dX1_next_92 (lv_at hl 2 rfl) ?_
                    refine lv_icmp_ge (tgt := 113) hx hb dX1_next_94 (by decide) (fun c_89 => ?_) (fun c_89 => ?_)
                    · have ec_89 := q_ge (a := v_71.toInt) (b := v_72.toInt) rfl rfl c_89
                      refine lv_iconst (v := 1) hx hb dX1_next_113 (by decide) ?_
                      have z_90 : (1 : Int32).toInt = 1 := by decide
                      have hP9 := hP.sub (ws' := [(o, .inr (1, [.ref o_letters, .ref o_tried, .ref o_best, .int o_known, .int o_weighed, .int o_person, .int o_day, .int o_count, .int o_most, .int o_least])), (o_tried, .inl (ko_tried, 6, .inl f_73))]) [0, 1] rfl
                      have hD9 := hD.sub (ws' := [(o, .inr (1, [.ref o_letters, .ref o_tried, .ref o_best, .int o_known, .int o_weighed, .int o_person, .int o_day, .int o_count, .int o_most, .int o_least])), (o_tried, .inl (ko_tried, 6, .inl f_73))]) [0, 1] (by decide) rfl
                      have hK9 := hK.sub (tys' := []) [] rfl
                      refine gQe eQ ?_
                      exact W.zret (v := 1) hx hb hr (by decide) (fun t9 ht hW => ⟨⟨1, 1, rfl, rfl, f_73, g_f_73, ⟨by decide, by decide⟩, by rw [ht]; exact hP9, va_K.moved hW.alike hK9, hD9⟩, hS.F ht⟩) hS.2.2 dX1_next_114
                    · have ec_89 := q_nge (a := v_71.toInt) (b := v_72.toInt) rfl rfl c_89
                      refine lv_aload_n hx hb dX1_next_97 rfl (lv_at hl 0 rfl) ?_
                      refine lv_iload_n hx hb dX1_next_98 rfl (lv_at hl 1 rfl) ?_
                      refine lv_iload hx hb dX1_next_99 (lv_at hl 2 rfl) ?_
                      have bq_91 : (0) ≤ v_71.toInt ∧ v_71.toInt ≤ 5 := ⟨by omega, by omega⟩
                      have bq_92 : (0) ≤ v_72.toInt ∧ v_72.toInt ≤ 5 := ⟨by omega, by omega⟩
                      have hPc := hP.sub (ws' := [(o, .inr (1, [.ref o_letters, .ref o_tried, .ref o_best, .int o_known, .int o_weighed, .int o_person, .int o_day, .int o_count, .int o_most, .int o_least])), (o_tried, .inl (ko_tried, 6, .inl f_73))]) [0, 1] rfl
                      have hDc := hD.sub (ws' := [(o, .inr (1, [.ref o_letters, .ref o_tried, .ref o_best, .int o_known, .int o_weighed, .int o_person, .int o_day, .int o_count, .int o_most, .int o_least])), (o_tried, .inl (ko_tried, 6, .inl f_73))]) [0, 1] (by decide) rfl
                      have hKc := hK.sub (tys' := [(ko_tried, .int)]) [0] rfl
                      have hFc := va_free (wc := [(o, .inr (1, [.ref o_letters, .ref o_tried, .ref o_best, .int o_known, .int o_weighed, .int o_person, .int o_day, .int o_count, .int o_most, .int o_least])), (o_tried, .inl (ko_tried, 6, .inl f_73))]) hD hS hA [0, 1] rfl
                      refine va_callv (va_runV (As := [.int v_71, .int v_72]) (rest := []) ⟨hx, hb, hml, hown, hts⟩ (o_swap l dC dI H.size o v_71 v_72 o_letters o_tried o_best o_known o_weighed o_person o_day o_count o_most o_least ko_tried f_73 bq_91 bq_92 b_o_known b_o_weighed b_o_count g_f_73) (cwV 2 hts (goodV w_1095 w_1096 w_1097 w_45 w_1098) rfl rfl rfl hdV_X1_swap ⟨Nat.le_of_ble_eq_true rfl, Nat.le_of_ble_eq_true rfl⟩) ⟨fun a U g mk q => by obtain ⟨q0, q1, qP, qK, qD⟩ := q; exact ⟨q0, q1, qP, va_K.moved (u := U) (U := U.calling g mk a) (Vm.Alike.refl U.vm) qK, qD⟩, va_recv hKc hPc (ci := 1) (q0 := 0) rfl rfl, fun U hU hW => ⟨rfl, by rw [hU], by rw [hU]; exact hPc, va_K.moved hW.alike hKc, hDc.weaken (fun _ _ _ _ => trivial)⟩⟩ rfl rfl hl.1 rfl (lv_room (Nat.le_of_ble_eq_true rfl)) dX1_next_101 ⟨Nat.le_of_ble_eq_true rfl, Nat.le_of_ble_eq_true rfl⟩) hS (fun q _ h => hFc q h) hFc (fun u9 t9 H1 locs ht hvm hw hB hz1 hk1 hS => ?_)
                      obtain ⟨f_94, g_f_94, hP1, hK1, hD1⟩ := hB
                      rw [ht] at hP1
                      have hK1 := va_K.moved hvm.symm hK1
                      obtain ⟨hP, hD⟩ := va_join (wr := []) (w1 := [(o, .inr (1, [.ref o_letters, .ref o_tried, .ref o_best, .int o_known, .int o_weighed, .int o_person, .int o_day, .int o_count, .int o_most, .int o_least])), (o_tried, .inl (ko_tried, 6, .inl f_94))]) hP hD [0, 1] [] rfl rfl (by decide) (by decide) hk1 hFc hP1 hD1
                      clear hPc hDc hKc hFc hz1 hk1 hP1 hD1 hK1
                      generalize H1 = H at hP hS ⊢
                      have hP : va_P (dC, dI) vwCl [(o, .inr (1, [.ref o_letters, .ref o_tried, .ref o_best, .int o_known, .int o_weighed, .int o_person, .int o_day, .int o_count, .int o_most, .int o_least])), (o_tried, .inl (ko_tried, 6, .inl f_94))] H := hP
                      have hD : va_D A [(o, .inr (1, [.ref o_letters, .ref o_tried, .ref o_best, .int o_known, .int o_weighed, .int o_person, .int o_day, .int o_count, .int o_most, .int o_least])), (o_tried, .inl (ko_tried, 6, .inl f_94))] := hD
                      obtain ⟨y_95, ey_95⟩ : ∃ y : Int32, y = v_71 + Int32.ofInt (1) := ⟨_, rfl⟩
                      have b_y_95 := q_add (a := v_71.toInt) (b := 1) ey_95 rfl (by decide) (by omega) (by omega)
                      refine lv_iinc (v := y_95) (lv' := [(3, .int y_95), (0, .ref o), (4, .int v_72)]) hx hb dX1_next_104 hl (k := 1) rfl ey_95.symm (by decide) rfl (fun ls hl => ?_)
                      obtain ⟨y_96, ey_96⟩ : ∃ y : Int32, y = v_72 + Int32.ofInt (-1) := ⟨_, rfl⟩
                      have b_y_96 := q_add (a := v_72.toInt) (b := -1) ey_96 rfl (by decide) (by omega) (by omega)
                      refine lv_iinc (v := y_96) (lv' := [(4, .int y_96), (3, .int y_95), (0, .ref o)]) hx hb dX1_next_107 hl (k := 2) rfl ey_96.symm (by decide) rfl (fun ls hl => ?_)
                      refine lv_goto (tgt := 91) hx hb dX1_next_110 (by decide) ?_
                      have bq_97 : (1) ≤ y_95.toInt ∧ y_95.toInt ≤ 5 := ⟨by omega, by omega⟩
                      have bq_98 : (-1) ≤ y_96.toInt ∧ y_96.toInt ≤ 5 := ⟨by omega, by omega⟩
                      exact ih91_88 y_95 y_96 f_94 H locs ls (by omega) bq_97 bq_98 g_f_94 hP hD hS (lv_sub hl [2, 1, 0] rfl)
                have bq_99 : (1) ≤ x_64.toInt ∧ x_64.toInt ≤ 5 := ⟨by omega, by omega⟩
                have bq_100 : (-1) ≤ x_34.toInt ∧ x_34.toInt ≤ 5 := ⟨by omega, by omega⟩
                exact hL91_88 _ x_64 x_34 f_63 H locs ls (Nat.lt_succ_self _) bq_99 bq_100 g_f_63 hP hD hS (lv_sub hl [2, 1, 0] rfl)
              refine lv_icmp_le (tgt := 73) hx hb dX1_next_49 (by decide) (fun c_56 => ?_) (fun c_56 => ?_)
              · have ec_56 := q_le (a := v_40.toInt) (b := v_8.toInt) rfl rfl c_56
                exact hJ73_60  H locs ls   hP hD hS hl
              · have ec_56 := q_nle (a := v_40.toInt) (b := v_8.toInt) rfl rfl c_56
                refine lv_aload_n hx hb dX1_next_52 rfl (lv_at hl 0 rfl) ?_
                refine va_get (D := (dC, dI)) (ci := 1) (v := .ref o_tried) (C := RX1) (T := TX1) (N := 10) hx hb hts inA1 hown hK hP 0 rfl rfl 1 (by decide) (hts _ w_147) (fun _ h9 => h9) rfl dX1_next_53 ?_
                refine lv_iload_n hx hb dX1_next_56 rfl (lv_at hl 2 rfl) ?_
                refine va_iald hx hb hK hP 1 0 rfl rfl (vp_in_iff.mpr ⟨by omega, by omega⟩) dX1_next_57 ?_
                refine lv_topi (fun x_101 ex_101 => ?_)
                have b_x_101 := bd.at g_fo_tried ex_101
                refine lv_aload_n hx hb dX1_next_58 rfl (lv_at hl 0 rfl) ?_
                refine va_get (D := (dC, dI)) (ci := 1) (v := .ref o_tried) (C := RX1) (T := TX1) (N := 10) hx hb hts inA1 hown hK hP 0 rfl rfl 1 (by decide) (hts _ w_147) (fun _ h9 => h9) rfl dX1_next_59 ?_
                refine lv_iload_n hx hb dX1_next_62 rfl (lv_at hl 1 rfl) ?_
                refine va_iald hx hb hK hP 1 0 rfl rfl (vp_in_iff.mpr ⟨by omega, by omega⟩) dX1_next_63 ?_
                refine lv_topi (fun x_102 ex_102 => ?_)
                have b_x_102 := bd.at g_fo_tried ex_102
                refine lv_icmp_ge (tgt := 73) hx hb dX1_next_64 (by decide) (fun c_103 => ?_) (fun c_103 => ?_)
                · have ec_103 := q_ge (a := x_101.toInt) (b := x_102.toInt) rfl rfl c_103
                  exact hJ73_60  H locs ls   hP hD hS hl
                · have ec_103 := q_nge (a := x_101.toInt) (b := x_102.toInt) rfl rfl c_103
                  obtain ⟨y_104, ey_104⟩ : ∃ y : Int32, y = v_40 + Int32.ofInt (-1) := ⟨_, rfl⟩
                  have b_y_104 := q_add (a := v_40.toInt) (b := -1) ey_104 rfl (by decide) (by omega) (by omega)
                  refine lv_iinc (v := y_104) (lv' := [(2, .int y_104), (0, .ref o), (1, .int v_8)]) hx hb dX1_next_67 hl (k := 2) rfl ey_104.symm (by decide) rfl (fun ls hl => ?_)
                  refine lv_goto (tgt := 47) hx hb dX1_next_70 (by decide) ?_
                  have bq_105 : (-1) ≤ y_104.toInt ∧ y_104.toInt ≤ 5 := ⟨by omega, by omega⟩
                  exact ih47_55 y_104 H locs ls (by omega) bq_105 (by omega) hP hD hS (lv_sub hl [1, 2, 0] rfl)
          have bq_106 : (-1) ≤ x_34.toInt ∧ x_34.toInt ≤ 5 := ⟨by omega, by omega⟩
          exact hL47_55 _ x_34 H locs ls (Nat.lt_succ_self _) bq_106 (by omega) hP hD hS (lv_sub hl [1, 2, 0] rfl)
        · have ec_33 := q_nge (a := v_8.toInt) (b := 0) rfl (by decide) c_33
          refine lv_iconst (v := 0) hx hb dX1_next_38 (by decide) ?_
          have z_107 : (0 : Int32).toInt = 0 := by decide
          have hP9 := hP.sub (ws' := [(o, .inr (1, [.ref o_letters, .ref o_tried, .ref o_best, .int o_known, .int o_weighed, .int o_person, .int o_day, .int o_count, .int o_most, .int o_least])), (o_tried, .inl (ko_tried, 6, .inl fo_tried))]) [0, 1] rfl
          have hD9 := hD.sub (ws' := [(o, .inr (1, [.ref o_letters, .ref o_tried, .ref o_best, .int o_known, .int o_weighed, .int o_person, .int o_day, .int o_count, .int o_most, .int o_least])), (o_tried, .inl (ko_tried, 6, .inl fo_tried))]) [0, 1] (by decide) rfl
          have hK9 := hK.sub (tys' := []) [] rfl
          refine gQe eQ ?_
          exact W.zret (v := 0) hx hb hr (by decide) (fun t9 ht hW => ⟨⟨0, 0, rfl, rfl, fo_tried, g_fo_tried, ⟨by decide, by decide⟩, by rw [ht]; exact hP9, va_K.moved hW.alike hK9, hD9⟩, hS.F ht⟩) hS.2.2 dX1_next_39
      refine lv_if_lt (tgt := 34) hx hb dX1_next_8 (by decide) (fun c_27 => ?_) (fun c_27 => ?_)
      · have ec_27 := q_lt (a := v_8.toInt) (b := 0) rfl (by decide) c_27
        exact hJ34_32  H locs ls   hP hD hS hl
      · have ec_27 := q_nlt (a := v_8.toInt) (b := 0) rfl (by decide) c_27
        refine lv_aload_n hx hb dX1_next_11 rfl (lv_at hl 0 rfl) ?_
        refine va_get (D := (dC, dI)) (ci := 1) (v := .ref o_tried) (C := RX1) (T := TX1) (N := 10) hx hb hts inA1 hown hK hP 0 rfl rfl 1 (by decide) (hts _ w_147) (fun _ h9 => h9) rfl dX1_next_12 ?_
        refine lv_iload_n hx hb dX1_next_15 rfl (lv_at hl 1 rfl) ?_
        refine va_iald hx hb hK hP 1 0 rfl rfl (vp_in_iff.mpr ⟨by omega, by omega⟩) dX1_next_16 ?_
        refine lv_topi (fun x_108 ex_108 => ?_)
        have b_x_108 := bd.at g_fo_tried ex_108
        refine lv_aload_n hx hb dX1_next_17 rfl (lv_at hl 0 rfl) ?_
        refine va_get (D := (dC, dI)) (ci := 1) (v := .ref o_tried) (C := RX1) (T := TX1) (N := 10) hx hb hts inA1 hown hK hP 0 rfl rfl 1 (by decide) (hts _ w_147) (fun _ h9 => h9) rfl dX1_next_18 ?_
        refine lv_iload_n hx hb dX1_next_21 rfl (lv_at hl 1 rfl) ?_
        refine lv_iconst (v := 1) hx hb dX1_next_22 (by decide) ?_
        refine lv_iadd hx hb dX1_next_23 ?_
        refine lv_topi (fun x_109 ex_109 => ?_)
        have b_x_109 := q_add (a := v_8.toInt) (b := 1) ex_109 rfl (by decide) (by omega) (by omega)
        refine va_iald hx hb hK hP 1 0 rfl rfl (vp_in_iff.mpr ⟨by omega, by omega⟩) dX1_next_24 ?_
        refine lv_topi (fun x_110 ex_110 => ?_)
        have b_x_110 := bd.at g_fo_tried ex_110
        refine lv_icmp_le (tgt := 34) hx hb dX1_next_25 (by decide) (fun c_111 => ?_) (fun c_111 => ?_)
        · have ec_111 := q_le (a := x_108.toInt) (b := x_110.toInt) rfl rfl c_111
          exact hJ34_32  H locs ls   hP hD hS hl
        · have ec_111 := q_nle (a := x_108.toInt) (b := x_110.toInt) rfl rfl c_111
          obtain ⟨y_112, ey_112⟩ : ∃ y : Int32, y = v_8 + Int32.ofInt (-1) := ⟨_, rfl⟩
          have b_y_112 := q_add (a := v_8.toInt) (b := -1) ey_112 rfl (by decide) (by omega) (by omega)
          refine lv_iinc (v := y_112) (lv' := [(1, .int y_112), (0, .ref o)]) hx hb dX1_next_28 hl (k := 1) rfl ey_112.symm (by decide) rfl (fun ls hl => ?_)
          refine lv_goto (tgt := 7) hx hb dX1_next_31 (by decide) ?_
          have bq_113 : (-2) ≤ y_112.toInt ∧ y_112.toInt ≤ 4 := ⟨by omega, by omega⟩
          exact ih7_26 y_112 H locs ls (by omega) bq_113 (by omega) hP hD hS (lv_sub hl [1, 0] rfl)
  have bq_114 : (-2) ≤ x_1.toInt ∧ x_1.toInt ≤ 4 := ⟨by omega, by omega⟩
  exact hL7_26 _ x_1 s.heap [] ls (Nat.lt_succ_self _) bq_114 (by omega) hP hD hS (lv_sub hl [1, 0] rfl)
