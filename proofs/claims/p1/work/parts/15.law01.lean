set_option maxHeartbeats 4000000 in
set_option maxRecDepth 100000 in
theorem law_ring {p : Program} {l : Launch} {e : Env} {s : State} {m : MethodId} {below : List Frame} {meth : Method} {c : Code} {dC : Nat → ClassId} {dI : Nat → Nat → Nat} {b : Nat} {xs : Nat → Int32} {H : Heap} {locs : List Loc} {ls : Array Slot} {x_tape : Nat} {x_reader : Nat} {x_current : Nat} {x_images : Nat} {x_kept : Nat} {x_slots : Nat} {x_diary : Nat} {x_base : Nat} {x_trial : Nat} {x_plan : Nat} {x_orders : Nat} {x_unanswered : Nat} {t0 : Nat} {t1 : Nat} {t2 : Nat} {t3 : Nat} {t4 : Nat} {t5 : Nat} {t6 : Nat} {t7 : Nat} {t8 : Nat} {t9 : Nat} {m_width : Nat} {m_many : Nat} {m_cells : Nat} {m_moved : Nat} {m_tape : Nat} {m_lines : Nat} {m_has : Nat} {m_person : Nat} {m_letter : Nat} {m_isKept : Nat} {m_more : Nat} {m_came : Nat} {m_answered : Nat} {m_left : Nat} {m_leftOn : Nat} {m_isBurnt : Nat} {m_heard : Nat} {m_waitsOn : Nat} {m_idleOn : Nat} {m_row : Nat} {m_key : Nat} {m_coming : Nat} {m_tried : Nat} {m_bestOrder : Nat} {m_before : Nat} {m_open : Nat} {mk_lines : ClassId} {xq : Nat} {mq : Nat} (C0 : lw_At p s m meth c b 6 xs)  (hK : va_K (dC, dI) vwCl [(mk_lines, .int)] s) (hP : va_P (dC, dI) vwCl [(xq, .inr (8, [.ref x_tape, .ref x_reader, .ref x_current, .ref x_images, .ref x_kept, .ref x_slots, .ref x_diary, .ref x_base, .ref x_trial, .ref x_plan, .ref x_orders, .ref x_unanswered, .int 0, .int 0, .int (-1)])), (x_current, .inr (7, [.int 0, .int 0, .int 0, .int 0, .int 0, .int 0, .int 0, .int 0, .ref t0, .ref t1, .ref t2, .ref t3, .ref t4, .ref t5, .ref t6, .ref t7, .ref t8, .ref t9])), (mq, .inr (9, [.int 0, .ref m_width, .ref m_many, .ref m_cells, .ref m_moved, .ref m_tape, .int 0, .int 0, .int 0, .int 0, .int 0, .long 0, .int 0, .int 0, .int 0, .int (-1), .ref m_lines, .ref m_has, .ref m_person, .ref m_letter, .int 0, .ref m_isKept, .ref m_more, .int 0, .ref m_came, .ref m_answered, .ref m_left, .ref m_leftOn, .ref m_isBurnt, .ref m_heard, .ref m_waitsOn, .ref m_idleOn, .ref m_row, .int 0, .int 0, .long 0, .ref m_key, .int 0, .int 0, .int 0, .int 0, .int 0, .int 0, .int 0, .int 0, .ref m_coming, .int 0, .ref m_tried, .ref m_bestOrder, .int 0, .int 0, .ref m_before, .int 0, .ref m_open])), (m_lines, .inl (mk_lines, 5, .inl (fun _ => 0)))] H) (hD : va_D (fun q : Nat => s.heap.size ≤ q) [(xq, .inr (8, [.ref x_tape, .ref x_reader, .ref x_current, .ref x_images, .ref x_kept, .ref x_slots, .ref x_diary, .ref x_base, .ref x_trial, .ref x_plan, .ref x_orders, .ref x_unanswered, .int 0, .int 0, .int (-1)])), (x_current, .inr (7, [.int 0, .int 0, .int 0, .int 0, .int 0, .int 0, .int 0, .int 0, .ref t0, .ref t1, .ref t2, .ref t3, .ref t4, .ref t5, .ref t6, .ref t7, .ref t8, .ref t9])), (mq, .inr (9, [.int 0, .ref m_width, .ref m_many, .ref m_cells, .ref m_moved, .ref m_tape, .int 0, .int 0, .int 0, .int 0, .int 0, .long 0, .int 0, .int 0, .int 0, .int (-1), .ref m_lines, .ref m_has, .ref m_person, .ref m_letter, .int 0, .ref m_isKept, .ref m_more, .int 0, .ref m_came, .ref m_answered, .ref m_left, .ref m_leftOn, .ref m_isBurnt, .ref m_heard, .ref m_waitsOn, .ref m_idleOn, .ref m_row, .int 0, .int 0, .long 0, .ref m_key, .int 0, .int 0, .int 0, .int 0, .int 0, .int 0, .int 0, .int 0, .ref m_coming, .int 0, .ref m_tried, .ref m_bestOrder, .int 0, .int 0, .ref m_before, .int 0, .ref m_open])), (m_lines, .inl (mk_lines, 5, .inl (fun _ => 0)))]) (hS : va_S (fun q : Nat => s.heap.size ≤ q) s.heap H locs) (hl : lv_has ls 4 [(3, .int 0), (2, .ref mq), (1, .ref xq), (0, .ref b)]) : W p l e room_1 s m #[Value.ref b] below meth c H locs 144 16687 (lw_Z below #[Value.ref b] s) (F0 m 759 ls []) := by
  obtain ⟨hx, hb, hr, hml, hown, hts0, hX, hbl, hlocks, hgv⟩ := id C0
  have hts : ∀ w ∈ ALLW, w.before #[Value.ref b] s = true := fun w h => hts0 w (inT w h)
  have hA : ∀ q : Nat, s.heap.size ≤ q → (fun q : Nat => s.heap.size ≤ q) q := fun _ h => h
  have hbA : ¬ (fun q : Nat => s.heap.size ≤ q) b := Nat.not_le.mpr hbl
  refine lv_aload_n hx hb dL_law_759 rfl (lv_at hl 2 rfl) ?_
  refine lv_aload_n hx hb dL_law_760 rfl (lv_at hl 3 rfl) ?_
  refine lv_iload_n hx hb dL_law_761 rfl (lv_at hl 0 rfl) ?_
  refine lv_iconst (v := 1) hx hb dL_law_762 (by decide) ?_
  refine lv_iadd hx hb dL_law_763 ?_
  refine lv_topi (fun x_1 ex_1 => ?_)
  obtain rfl : x_1 = 1 := ex_1.trans (by decide +kernel)
  refine va_sld hx hb hX hbl hbA hS (show vp_in 1 6 from (by unfold vp_in; decide)) dL_law_764 ?_
  refine lv_topi (fun x_2 ex_2 => ?_)
  obtain rfl : x_2 = xs 1 := ex_2.trans (congrArg xs (by decide))
  have hPc := hP.sub (ws' := [(xq, .inr (8, [.ref x_tape, .ref x_reader, .ref x_current, .ref x_images, .ref x_kept, .ref x_slots, .ref x_diary, .ref x_base, .ref x_trial, .ref x_plan, .ref x_orders, .ref x_unanswered, .int 0, .int 0, .int (-1)])), (x_current, .inr (7, [.int 0, .int 0, .int 0, .int 0, .int 0, .int 0, .int 0, .int 0, .ref t0, .ref t1, .ref t2, .ref t3, .ref t4, .ref t5, .ref t6, .ref t7, .ref t8, .ref t9]))]) [0, 1] rfl
  have hDc := hD.sub (ws' := [(xq, .inr (8, [.ref x_tape, .ref x_reader, .ref x_current, .ref x_images, .ref x_kept, .ref x_slots, .ref x_diary, .ref x_base, .ref x_trial, .ref x_plan, .ref x_orders, .ref x_unanswered, .int 0, .int 0, .int (-1)])), (x_current, .inr (7, [.int 0, .int 0, .int 0, .int 0, .int 0, .int 0, .int 0, .int 0, .ref t0, .ref t1, .ref t2, .ref t3, .ref t4, .ref t5, .ref t6, .ref t7, .ref t8, .ref t9]))]) [0, 1] (by decide) rfl
  have hKc := hK.sub (tys' := []) [] rfl
  have hFc := va_free (wc := [(xq, .inr (8, [.ref x_tape, .ref x_reader, .ref x_current, .ref x_images, .ref x_kept, .ref x_slots, .ref x_diary, .ref x_base, .ref x_trial, .ref x_plan, .ref x_orders, .ref x_unanswered, .int 0, .int 0, .int (-1)])), (x_current, .inr (7, [.int 0, .int 0, .int 0, .int 0, .int 0, .int 0, .int 0, .int 0, .ref t0, .ref t1, .ref t2, .ref t3, .ref t4, .ref t5, .ref t6, .ref t7, .ref t8, .ref t9]))]) hD hS hA [0, 1] rfl
  refine va_calli (va_runV (As := [.int (xs 1)]) (rest := []) ⟨hx, hb, hml, hown, hts⟩ (x_ring l dC dI H.size xq x_tape x_reader x_current x_images x_kept x_slots x_diary x_base x_trial x_plan x_orders x_unanswered t0 t1 t2 t3 t4 t5 t6 t7 t8 t9 ((xs 1)) ) (cwV 1 hts (goodV w_944 w_945 w_946 w_2 w_947) rfl rfl rfl hdV_X8_ring ⟨Nat.le_of_ble_eq_true rfl, Nat.le_of_ble_eq_true rfl⟩) ⟨fun a U g mk q => by obtain ⟨q0, q1, qP, qK, qD⟩ := q; exact ⟨q0, q1, qP, va_K.moved (u := U) (U := U.calling g mk a) (Vm.Alike.refl U.vm) qK, qD⟩, va_recv hKc hPc (ci := 8) (q0 := 0) rfl rfl, fun U hU hW => ⟨rfl, by rw [hU], by rw [hU]; exact hPc, va_K.moved hW.alike hKc, hDc.weaken (fun _ _ _ _ => trivial)⟩⟩ rfl rfl hl.1 rfl (lv_room (Nat.le_of_ble_eq_true rfl)) dL_law_765 ⟨Nat.le_of_ble_eq_true rfl, Nat.le_of_ble_eq_true rfl⟩) hS (fun q _ h => hFc q h) hFc (fun r_3 u t H1 locs ht hvm hw hB hz1 hk1 hS => ?_)
  obtain ⟨hP, hD⟩ := va_join (wr := [(mq, .inr (9, [.int 0, .ref m_width, .ref m_many, .ref m_cells, .ref m_moved, .ref m_tape, .int 0, .int 0, .int 0, .int 0, .int 0, .long 0, .int 0, .int 0, .int 0, .int (-1), .ref m_lines, .ref m_has, .ref m_person, .ref m_letter, .int 0, .ref m_isKept, .ref m_more, .int 0, .ref m_came, .ref m_answered, .ref m_left, .ref m_leftOn, .ref m_isBurnt, .ref m_heard, .ref m_waitsOn, .ref m_idleOn, .ref m_row, .int 0, .int 0, .long 0, .ref m_key, .int 0, .int 0, .int 0, .int 0, .int 0, .int 0, .int 0, .int 0, .ref m_coming, .int 0, .ref m_tried, .ref m_bestOrder, .int 0, .int 0, .ref m_before, .int 0, .ref m_open])), (m_lines, .inl (mk_lines, 5, .inl (fun _ => 0)))]) (w1 := []) hP hD [0, 1] [2, 3] rfl rfl (by decide) (by decide) hk1 hFc nilP nilD
  clear hPc hDc hKc hFc
  generalize H1 = H at hP hS ⊢
  have hP : va_P (dC, dI) vwCl [(mq, .inr (9, [.int 0, .ref m_width, .ref m_many, .ref m_cells, .ref m_moved, .ref m_tape, .int 0, .int 0, .int 0, .int 0, .int 0, .long 0, .int 0, .int 0, .int 0, .int (-1), .ref m_lines, .ref m_has, .ref m_person, .ref m_letter, .int 0, .ref m_isKept, .ref m_more, .int 0, .ref m_came, .ref m_answered, .ref m_left, .ref m_leftOn, .ref m_isBurnt, .ref m_heard, .ref m_waitsOn, .ref m_idleOn, .ref m_row, .int 0, .int 0, .long 0, .ref m_key, .int 0, .int 0, .int 0, .int 0, .int 0, .int 0, .int 0, .int 0, .ref m_coming, .int 0, .ref m_tried, .ref m_bestOrder, .int 0, .int 0, .ref m_before, .int 0, .ref m_open])), (m_lines, .inl (mk_lines, 5, .inl (fun _ => 0)))] H := hP
  have hD : va_D (fun q : Nat => s.heap.size ≤ q) [(mq, .inr (9, [.int 0, .ref m_width, .ref m_many, .ref m_cells, .ref m_moved, .ref m_tape, .int 0, .int 0, .int 0, .int 0, .int 0, .long 0, .int 0, .int 0, .int 0, .int (-1), .ref m_lines, .ref m_has, .ref m_person, .ref m_letter, .int 0, .ref m_isKept, .ref m_more, .int 0, .ref m_came, .ref m_answered, .ref m_left, .ref m_leftOn, .ref m_isBurnt, .ref m_heard, .ref m_waitsOn, .ref m_idleOn, .ref m_row, .int 0, .int 0, .long 0, .ref m_key, .int 0, .int 0, .int 0, .int 0, .int 0, .int 0, .int 0, .int 0, .ref m_coming, .int 0, .ref m_tried, .ref m_bestOrder, .int 0, .int 0, .ref m_before, .int 0, .ref m_open])), (m_lines, .inl (mk_lines, 5, .inl (fun _ => 0)))] := hD
  have hw : r_3 = (-2) := hw
  subst hw
  refine lv_aload_n hx hb dL_law_768 rfl (lv_at hl 1 rfl) ?_
  refine lv_aload_n hx hb dL_law_769 rfl (lv_at hl 3 rfl) ?_
  refine lv_iload_n hx hb dL_law_770 rfl (lv_at hl 0 rfl) ?_
  refine lv_iconst (v := 1) hx hb dL_law_771 (by decide) ?_
  refine lv_iadd hx hb dL_law_772 ?_
  refine lv_topi (fun x_4 ex_4 => ?_)
  obtain rfl : x_4 = 1 := ex_4.trans (by decide +kernel)
  refine va_sld hx hb hX hbl hbA hS (show vp_in 1 6 from (by unfold vp_in; decide)) dL_law_773 ?_
  refine lv_topi (fun x_5 ex_5 => ?_)
  obtain rfl : x_5 = xs 1 := ex_5.trans (congrArg xs (by decide))
  have hPc := hP.sub (ws' := [(mq, .inr (9, [.int 0, .ref m_width, .ref m_many, .ref m_cells, .ref m_moved, .ref m_tape, .int 0, .int 0, .int 0, .int 0, .int 0, .long 0, .int 0, .int 0, .int 0, .int (-1), .ref m_lines, .ref m_has, .ref m_person, .ref m_letter, .int 0, .ref m_isKept, .ref m_more, .int 0, .ref m_came, .ref m_answered, .ref m_left, .ref m_leftOn, .ref m_isBurnt, .ref m_heard, .ref m_waitsOn, .ref m_idleOn, .ref m_row, .int 0, .int 0, .long 0, .ref m_key, .int 0, .int 0, .int 0, .int 0, .int 0, .int 0, .int 0, .int 0, .ref m_coming, .int 0, .ref m_tried, .ref m_bestOrder, .int 0, .int 0, .ref m_before, .int 0, .ref m_open])), (m_lines, .inl (mk_lines, 5, .inl (fun _ => 0)))]) [0, 1] rfl
  have hDc := hD.sub (ws' := [(mq, .inr (9, [.int 0, .ref m_width, .ref m_many, .ref m_cells, .ref m_moved, .ref m_tape, .int 0, .int 0, .int 0, .int 0, .int 0, .long 0, .int 0, .int 0, .int 0, .int (-1), .ref m_lines, .ref m_has, .ref m_person, .ref m_letter, .int 0, .ref m_isKept, .ref m_more, .int 0, .ref m_came, .ref m_answered, .ref m_left, .ref m_leftOn, .ref m_isBurnt, .ref m_heard, .ref m_waitsOn, .ref m_idleOn, .ref m_row, .int 0, .int 0, .long 0, .ref m_key, .int 0, .int 0, .int 0, .int 0, .int 0, .int 0, .int 0, .int 0, .ref m_coming, .int 0, .ref m_tried, .ref m_bestOrder, .int 0, .int 0, .ref m_before, .int 0, .ref m_open])), (m_lines, .inl (mk_lines, 5, .inl (fun _ => 0)))]) [0, 1] (by decide) rfl
  have hKc := hK.sub (tys' := [(mk_lines, .int)]) [0] rfl
  have hFc := va_free (wc := [(mq, .inr (9, [.int 0, .ref m_width, .ref m_many, .ref m_cells, .ref m_moved, .ref m_tape, .int 0, .int 0, .int 0, .int 0, .int 0, .long 0, .int 0, .int 0, .int 0, .int (-1), .ref m_lines, .ref m_has, .ref m_person, .ref m_letter, .int 0, .ref m_isKept, .ref m_more, .int 0, .ref m_came, .ref m_answered, .ref m_left, .ref m_leftOn, .ref m_isBurnt, .ref m_heard, .ref m_waitsOn, .ref m_idleOn, .ref m_row, .int 0, .int 0, .long 0, .ref m_key, .int 0, .int 0, .int 0, .int 0, .int 0, .int 0, .int 0, .int 0, .ref m_coming, .int 0, .ref m_tried, .ref m_bestOrder, .int 0, .int 0, .ref m_before, .int 0, .ref m_open])), (m_lines, .inl (mk_lines, 5, .inl (fun _ => 0)))]) hD hS hA [0, 1] rfl
  refine va_calli (va_runV (As := [.int (xs 1)]) (rest := [.int (-2)]) ⟨hx, hb, hml, hown, hts⟩ (mc_ring l dC dI H.size mq m_width m_many m_cells m_moved m_tape m_lines m_has m_person m_letter m_isKept m_more m_came m_answered m_left m_leftOn m_isBurnt m_heard m_waitsOn m_idleOn m_row m_key m_coming m_tried m_bestOrder m_before m_open mk_lines ((xs 1)) ) (cwV 1 hts (goodV w_952 w_953 w_954 w_5 w_955) rfl rfl rfl hdV_X9_ring ⟨Nat.le_of_ble_eq_true rfl, Nat.le_of_ble_eq_true rfl⟩) ⟨fun a U g mk q => by obtain ⟨q0, q1, qP, qK, qD⟩ := q; exact ⟨q0, q1, qP, va_K.moved (u := U) (U := U.calling g mk a) (Vm.Alike.refl U.vm) qK, qD⟩, va_recv hKc hPc (ci := 9) (q0 := 0) rfl rfl, fun U hU hW => ⟨rfl, by rw [hU], by rw [hU]; exact hPc, va_K.moved hW.alike hKc, hDc.weaken (fun _ _ _ _ => trivial)⟩⟩ rfl rfl hl.1 rfl (lv_room (Nat.le_of_ble_eq_true rfl)) dL_law_774 ⟨Nat.le_of_ble_eq_true rfl, Nat.le_of_ble_eq_true rfl⟩) hS (fun q _ h => hFc q h) hFc (fun r_6 u t H1 locs ht hvm hw hB hz1 hk1 hS => ?_)
  obtain ⟨hP, hD⟩ := va_join (wr := []) (w1 := []) hP hD [0, 1] [] rfl rfl (by decide) (by decide) hk1 hFc nilP nilD
  clear hPc hDc hKc hFc
  generalize H1 = H at hP hS ⊢
  have hP : va_P (dC, dI) vwCl [] H := hP
  have hD : va_D (fun q : Nat => s.heap.size ≤ q) [] := hD
  have hw : r_6 = (-2) := hw
  subst hw
  refine lv_icmp_eq (tgt := 1677) hx hb dL_law_777 (by decide) (fun c_7 => ?_) (fun c_7 => absurd (by decide) c_7)
  exact law_tail C0 hS (lv_sub hl [0, 3] rfl)

set_option maxHeartbeats 4000000 in
set_option maxRecDepth 100000 in
theorem law_worth {p : Program} {l : Launch} {e : Env} {s : State} {m : MethodId} {below : List Frame} {meth : Method} {c : Code} {dC : Nat → ClassId} {dI : Nat → Nat → Nat} {b : Nat} {xs : Nat → Int32} {H : Heap} {locs : List Loc} {ls : Array Slot} {x_tape : Nat} {x_reader : Nat} {x_current : Nat} {x_images : Nat} {x_kept : Nat} {x_slots : Nat} {x_diary : Nat} {x_base : Nat} {x_trial : Nat} {x_plan : Nat} {x_orders : Nat} {x_unanswered : Nat} {t0 : Nat} {t1 : Nat} {t2 : Nat} {t3 : Nat} {t4 : Nat} {t5 : Nat} {t6 : Nat} {t7 : Nat} {t8 : Nat} {t9 : Nat} {m_width : Nat} {m_many : Nat} {m_cells : Nat} {m_moved : Nat} {m_tape : Nat} {m_lines : Nat} {m_has : Nat} {m_person : Nat} {m_letter : Nat} {m_isKept : Nat} {m_more : Nat} {m_came : Nat} {m_answered : Nat} {m_left : Nat} {m_leftOn : Nat} {m_isBurnt : Nat} {m_heard : Nat} {m_waitsOn : Nat} {m_idleOn : Nat} {m_row : Nat} {m_key : Nat} {m_coming : Nat} {m_tried : Nat} {m_bestOrder : Nat} {m_before : Nat} {m_open : Nat} {mk_lines : ClassId} {xq : Nat} {mq : Nat} (C0 : lw_At p s m meth c b 6 xs)  (hK : va_K (dC, dI) vwCl [(mk_lines, .int)] s) (hP : va_P (dC, dI) vwCl [(xq, .inr (8, [.ref x_tape, .ref x_reader, .ref x_current, .ref x_images, .ref x_kept, .ref x_slots, .ref x_diary, .ref x_base, .ref x_trial, .ref x_plan, .ref x_orders, .ref x_unanswered, .int 0, .int 0, .int (-1)])), (x_current, .inr (7, [.int 0, .int 0, .int 0, .int 0, .int 0, .int 0, .int 0, .int 0, .ref t0, .ref t1, .ref t2, .ref t3, .ref t4, .ref t5, .ref t6, .ref t7, .ref t8, .ref t9])), (mq, .inr (9, [.int 0, .ref m_width, .ref m_many, .ref m_cells, .ref m_moved, .ref m_tape, .int 0, .int 0, .int 0, .int 0, .int 0, .long 0, .int 0, .int 0, .int 0, .int (-1), .ref m_lines, .ref m_has, .ref m_person, .ref m_letter, .int 0, .ref m_isKept, .ref m_more, .int 0, .ref m_came, .ref m_answered, .ref m_left, .ref m_leftOn, .ref m_isBurnt, .ref m_heard, .ref m_waitsOn, .ref m_idleOn, .ref m_row, .int 0, .int 0, .long 0, .ref m_key, .int 0, .int 0, .int 0, .int 0, .int 0, .int 0, .int 0, .int 0, .ref m_coming, .int 0, .ref m_tried, .ref m_bestOrder, .int 0, .int 0, .ref m_before, .int 0, .ref m_open])), (m_lines, .inl (mk_lines, 5, .inl (fun _ => 0)))] H) (hD : va_D (fun q : Nat => s.heap.size ≤ q) [(xq, .inr (8, [.ref x_tape, .ref x_reader, .ref x_current, .ref x_images, .ref x_kept, .ref x_slots, .ref x_diary, .ref x_base, .ref x_trial, .ref x_plan, .ref x_orders, .ref x_unanswered, .int 0, .int 0, .int (-1)])), (x_current, .inr (7, [.int 0, .int 0, .int 0, .int 0, .int 0, .int 0, .int 0, .int 0, .ref t0, .ref t1, .ref t2, .ref t3, .ref t4, .ref t5, .ref t6, .ref t7, .ref t8, .ref t9])), (mq, .inr (9, [.int 0, .ref m_width, .ref m_many, .ref m_cells, .ref m_moved, .ref m_tape, .int 0, .int 0, .int 0, .int 0, .int 0, .long 0, .int 0, .int 0, .int 0, .int (-1), .ref m_lines, .ref m_has, .ref m_person, .ref m_letter, .int 0, .ref m_isKept, .ref m_more, .int 0, .ref m_came, .ref m_answered, .ref m_left, .ref m_leftOn, .ref m_isBurnt, .ref m_heard, .ref m_waitsOn, .ref m_idleOn, .ref m_row, .int 0, .int 0, .long 0, .ref m_key, .int 0, .int 0, .int 0, .int 0, .int 0, .int 0, .int 0, .int 0, .ref m_coming, .int 0, .ref m_tried, .ref m_bestOrder, .int 0, .int 0, .ref m_before, .int 0, .ref m_open])), (m_lines, .inl (mk_lines, 5, .inl (fun _ => 0)))]) (hS : va_S (fun q : Nat => s.heap.size ≤ q) s.heap H locs) (hl : lv_has ls 4 [(3, .int 0), (2, .ref mq), (1, .ref xq), (0, .ref b)]) : W p l e room_1 s m #[Value.ref b] below meth c H locs 144 16687 (lw_Z below #[Value.ref b] s) (F0 m 782 ls []) := by
  obtain ⟨hx, hb, hr, hml, hown, hts0, hX, hbl, hlocks, hgv⟩ := id C0
  have hts : ∀ w ∈ ALLW, w.before #[Value.ref b] s = true := fun w h => hts0 w (inT w h)
  have hA : ∀ q : Nat, s.heap.size ≤ q → (fun q : Nat => s.heap.size ≤ q) q := fun _ h => h
  have hbA : ¬ (fun q : Nat => s.heap.size ≤ q) b := Nat.not_le.mpr hbl
  refine lv_aload_n hx hb dL_law_782 rfl (lv_at hl 2 rfl) ?_
  have hPc := hP.sub (ws' := [(xq, .inr (8, [.ref x_tape, .ref x_reader, .ref x_current, .ref x_images, .ref x_kept, .ref x_slots, .ref x_diary, .ref x_base, .ref x_trial, .ref x_plan, .ref x_orders, .ref x_unanswered, .int 0, .int 0, .int (-1)])), (x_current, .inr (7, [.int 0, .int 0, .int 0, .int 0, .int 0, .int 0, .int 0, .int 0, .ref t0, .ref t1, .ref t2, .ref t3, .ref t4, .ref t5, .ref t6, .ref t7, .ref t8, .ref t9]))]) [0, 1] rfl
  have hDc := hD.sub (ws' := [(xq, .inr (8, [.ref x_tape, .ref x_reader, .ref x_current, .ref x_images, .ref x_kept, .ref x_slots, .ref x_diary, .ref x_base, .ref x_trial, .ref x_plan, .ref x_orders, .ref x_unanswered, .int 0, .int 0, .int (-1)])), (x_current, .inr (7, [.int 0, .int 0, .int 0, .int 0, .int 0, .int 0, .int 0, .int 0, .ref t0, .ref t1, .ref t2, .ref t3, .ref t4, .ref t5, .ref t6, .ref t7, .ref t8, .ref t9]))]) [0, 1] (by decide) rfl
  have hKc := hK.sub (tys' := []) [] rfl
  have hFc := va_free (wc := [(xq, .inr (8, [.ref x_tape, .ref x_reader, .ref x_current, .ref x_images, .ref x_kept, .ref x_slots, .ref x_diary, .ref x_base, .ref x_trial, .ref x_plan, .ref x_orders, .ref x_unanswered, .int 0, .int 0, .int (-1)])), (x_current, .inr (7, [.int 0, .int 0, .int 0, .int 0, .int 0, .int 0, .int 0, .int 0, .ref t0, .ref t1, .ref t2, .ref t3, .ref t4, .ref t5, .ref t6, .ref t7, .ref t8, .ref t9]))]) hD hS hA [0, 1] rfl
  refine va_calli (va_runV (As := []) (rest := []) ⟨hx, hb, hml, hown, hts⟩ (x_worth l dC dI H.size xq x_tape x_reader x_current x_images x_kept x_slots x_diary x_base x_trial x_plan x_orders x_unanswered t0 t1 t2 t3 t4 t5 t6 t7 t8 t9 ) (cwV 0 hts (goodV w_960 w_961 w_962 w_2 w_963) rfl rfl rfl hdV_X8_worth ⟨Nat.le_of_ble_eq_true rfl, Nat.le_of_ble_eq_true rfl⟩) ⟨fun a U g mk q => by obtain ⟨q0, q1, qP, qK, qD⟩ := q; exact ⟨q0, q1, qP, va_K.moved (u := U) (U := U.calling g mk a) (Vm.Alike.refl U.vm) qK, qD⟩, va_recv hKc hPc (ci := 8) (q0 := 0) rfl rfl, fun U hU hW => ⟨rfl, by rw [hU], by rw [hU]; exact hPc, va_K.moved hW.alike hKc, hDc.weaken (fun _ _ _ _ => trivial)⟩⟩ rfl rfl hl.1 rfl (lv_room (Nat.le_of_ble_eq_true rfl)) dL_law_783 ⟨Nat.le_of_ble_eq_true rfl, Nat.le_of_ble_eq_true rfl⟩) hS (fun q _ h => hFc q h) hFc (fun r_1 u t H1 locs ht hvm hw hB hz1 hk1 hS => ?_)
  obtain ⟨hP, hD⟩ := va_join (wr := [(mq, .inr (9, [.int 0, .ref m_width, .ref m_many, .ref m_cells, .ref m_moved, .ref m_tape, .int 0, .int 0, .int 0, .int 0, .int 0, .long 0, .int 0, .int 0, .int 0, .int (-1), .ref m_lines, .ref m_has, .ref m_person, .ref m_letter, .int 0, .ref m_isKept, .ref m_more, .int 0, .ref m_came, .ref m_answered, .ref m_left, .ref m_leftOn, .ref m_isBurnt, .ref m_heard, .ref m_waitsOn, .ref m_idleOn, .ref m_row, .int 0, .int 0, .long 0, .ref m_key, .int 0, .int 0, .int 0, .int 0, .int 0, .int 0, .int 0, .int 0, .ref m_coming, .int 0, .ref m_tried, .ref m_bestOrder, .int 0, .int 0, .ref m_before, .int 0, .ref m_open])), (m_lines, .inl (mk_lines, 5, .inl (fun _ => 0)))]) (w1 := []) hP hD [0, 1] [2, 3] rfl rfl (by decide) (by decide) hk1 hFc nilP nilD
  clear hPc hDc hKc hFc
  generalize H1 = H at hP hS ⊢
  have hP : va_P (dC, dI) vwCl [(mq, .inr (9, [.int 0, .ref m_width, .ref m_many, .ref m_cells, .ref m_moved, .ref m_tape, .int 0, .int 0, .int 0, .int 0, .int 0, .long 0, .int 0, .int 0, .int 0, .int (-1), .ref m_lines, .ref m_has, .ref m_person, .ref m_letter, .int 0, .ref m_isKept, .ref m_more, .int 0, .ref m_came, .ref m_answered, .ref m_left, .ref m_leftOn, .ref m_isBurnt, .ref m_heard, .ref m_waitsOn, .ref m_idleOn, .ref m_row, .int 0, .int 0, .long 0, .ref m_key, .int 0, .int 0, .int 0, .int 0, .int 0, .int 0, .int 0, .int 0, .ref m_coming, .int 0, .ref m_tried, .ref m_bestOrder, .int 0, .int 0, .ref m_before, .int 0, .ref m_open])), (m_lines, .inl (mk_lines, 5, .inl (fun _ => 0)))] H := hP
  have hD : va_D (fun q : Nat => s.heap.size ≤ q) [(mq, .inr (9, [.int 0, .ref m_width, .ref m_many, .ref m_cells, .ref m_moved, .ref m_tape, .int 0, .int 0, .int 0, .int 0, .int 0, .long 0, .int 0, .int 0, .int 0, .int (-1), .ref m_lines, .ref m_has, .ref m_person, .ref m_letter, .int 0, .ref m_isKept, .ref m_more, .int 0, .ref m_came, .ref m_answered, .ref m_left, .ref m_leftOn, .ref m_isBurnt, .ref m_heard, .ref m_waitsOn, .ref m_idleOn, .ref m_row, .int 0, .int 0, .long 0, .ref m_key, .int 0, .int 0, .int 0, .int 0, .int 0, .int 0, .int 0, .int 0, .ref m_coming, .int 0, .ref m_tried, .ref m_bestOrder, .int 0, .int 0, .ref m_before, .int 0, .ref m_open])), (m_lines, .inl (mk_lines, 5, .inl (fun _ => 0)))] := hD
  have hw : r_1 = (-2) := hw
  subst hw
  refine lv_aload_n hx hb dL_law_786 rfl (lv_at hl 1 rfl) ?_
  have hPc := hP.sub (ws' := [(mq, .inr (9, [.int 0, .ref m_width, .ref m_many, .ref m_cells, .ref m_moved, .ref m_tape, .int 0, .int 0, .int 0, .int 0, .int 0, .long 0, .int 0, .int 0, .int 0, .int (-1), .ref m_lines, .ref m_has, .ref m_person, .ref m_letter, .int 0, .ref m_isKept, .ref m_more, .int 0, .ref m_came, .ref m_answered, .ref m_left, .ref m_leftOn, .ref m_isBurnt, .ref m_heard, .ref m_waitsOn, .ref m_idleOn, .ref m_row, .int 0, .int 0, .long 0, .ref m_key, .int 0, .int 0, .int 0, .int 0, .int 0, .int 0, .int 0, .int 0, .ref m_coming, .int 0, .ref m_tried, .ref m_bestOrder, .int 0, .int 0, .ref m_before, .int 0, .ref m_open])), (m_lines, .inl (mk_lines, 5, .inl (fun _ => 0)))]) [0, 1] rfl
  have hDc := hD.sub (ws' := [(mq, .inr (9, [.int 0, .ref m_width, .ref m_many, .ref m_cells, .ref m_moved, .ref m_tape, .int 0, .int 0, .int 0, .int 0, .int 0, .long 0, .int 0, .int 0, .int 0, .int (-1), .ref m_lines, .ref m_has, .ref m_person, .ref m_letter, .int 0, .ref m_isKept, .ref m_more, .int 0, .ref m_came, .ref m_answered, .ref m_left, .ref m_leftOn, .ref m_isBurnt, .ref m_heard, .ref m_waitsOn, .ref m_idleOn, .ref m_row, .int 0, .int 0, .long 0, .ref m_key, .int 0, .int 0, .int 0, .int 0, .int 0, .int 0, .int 0, .int 0, .ref m_coming, .int 0, .ref m_tried, .ref m_bestOrder, .int 0, .int 0, .ref m_before, .int 0, .ref m_open])), (m_lines, .inl (mk_lines, 5, .inl (fun _ => 0)))]) [0, 1] (by decide) rfl
  have hKc := hK.sub (tys' := [(mk_lines, .int)]) [0] rfl
  have hFc := va_free (wc := [(mq, .inr (9, [.int 0, .ref m_width, .ref m_many, .ref m_cells, .ref m_moved, .ref m_tape, .int 0, .int 0, .int 0, .int 0, .int 0, .long 0, .int 0, .int 0, .int 0, .int (-1), .ref m_lines, .ref m_has, .ref m_person, .ref m_letter, .int 0, .ref m_isKept, .ref m_more, .int 0, .ref m_came, .ref m_answered, .ref m_left, .ref m_leftOn, .ref m_isBurnt, .ref m_heard, .ref m_waitsOn, .ref m_idleOn, .ref m_row, .int 0, .int 0, .long 0, .ref m_key, .int 0, .int 0, .int 0, .int 0, .int 0, .int 0, .int 0, .int 0, .ref m_coming, .int 0, .ref m_tried, .ref m_bestOrder, .int 0, .int 0, .ref m_before, .int 0, .ref m_open])), (m_lines, .inl (mk_lines, 5, .inl (fun _ => 0)))]) hD hS hA [0, 1] rfl
  refine va_calli (va_runV (As := []) (rest := [.int (-2)]) ⟨hx, hb, hml, hown, hts⟩ (mc_worth l dC dI H.size mq m_width m_many m_cells m_moved m_tape m_lines m_has m_person m_letter m_isKept m_more m_came m_answered m_left m_leftOn m_isBurnt m_heard m_waitsOn m_idleOn m_row m_key m_coming m_tried m_bestOrder m_before m_open mk_lines ) (cwV 0 hts (goodV w_978 w_979 w_980 w_5 w_981) rfl rfl rfl hdV_X9_worth ⟨Nat.le_of_ble_eq_true rfl, Nat.le_of_ble_eq_true rfl⟩) ⟨fun a U g mk q => by obtain ⟨q0, q1, qP, qK, qD⟩ := q; exact ⟨q0, q1, qP, va_K.moved (u := U) (U := U.calling g mk a) (Vm.Alike.refl U.vm) qK, qD⟩, va_recv hKc hPc (ci := 9) (q0 := 0) rfl rfl, fun U hU hW => ⟨rfl, by rw [hU], by rw [hU]; exact hPc, va_K.moved hW.alike hKc, hDc.weaken (fun _ _ _ _ => trivial)⟩⟩ rfl rfl hl.1 rfl (lv_room (Nat.le_of_ble_eq_true rfl)) dL_law_787 ⟨Nat.le_of_ble_eq_true rfl, Nat.le_of_ble_eq_true rfl⟩) hS (fun q _ h => hFc q h) hFc (fun r_2 u t H1 locs ht hvm hw hB hz1 hk1 hS => ?_)
  obtain ⟨hP, hD⟩ := va_join (wr := []) (w1 := []) hP hD [0, 1] [] rfl rfl (by decide) (by decide) hk1 hFc nilP nilD
  clear hPc hDc hKc hFc
  generalize H1 = H at hP hS ⊢
  have hP : va_P (dC, dI) vwCl [] H := hP
  have hD : va_D (fun q : Nat => s.heap.size ≤ q) [] := hD
  have hw : r_2 = (-2) := hw
  subst hw
  refine lv_icmp_eq (tgt := 1677) hx hb dL_law_790 (by decide) (fun c_3 => ?_) (fun c_3 => absurd (by decide) c_3)
  exact law_tail C0 hS (lv_sub hl [0, 3] rfl)

set_option maxHeartbeats 4000000 in
set_option maxRecDepth 100000 in
theorem law_late {p : Program} {l : Launch} {e : Env} {s : State} {m : MethodId} {below : List Frame} {meth : Method} {c : Code} {dC : Nat → ClassId} {dI : Nat → Nat → Nat} {b : Nat} {xs : Nat → Int32} {H : Heap} {locs : List Loc} {ls : Array Slot} {x_tape : Nat} {x_reader : Nat} {x_current : Nat} {x_images : Nat} {x_kept : Nat} {x_slots : Nat} {x_diary : Nat} {x_base : Nat} {x_trial : Nat} {x_plan : Nat} {x_orders : Nat} {x_unanswered : Nat} {t0 : Nat} {t1 : Nat} {t2 : Nat} {t3 : Nat} {t4 : Nat} {t5 : Nat} {t6 : Nat} {t7 : Nat} {t8 : Nat} {t9 : Nat} {m_width : Nat} {m_many : Nat} {m_cells : Nat} {m_moved : Nat} {m_tape : Nat} {m_lines : Nat} {m_has : Nat} {m_person : Nat} {m_letter : Nat} {m_isKept : Nat} {m_more : Nat} {m_came : Nat} {m_answered : Nat} {m_left : Nat} {m_leftOn : Nat} {m_isBurnt : Nat} {m_heard : Nat} {m_waitsOn : Nat} {m_idleOn : Nat} {m_row : Nat} {m_key : Nat} {m_coming : Nat} {m_tried : Nat} {m_bestOrder : Nat} {m_before : Nat} {m_open : Nat} {mk_lines : ClassId} {xq : Nat} {mq : Nat} (C0 : lw_At p s m meth c b 6 xs)  (hK : va_K (dC, dI) vwCl [(mk_lines, .int)] s) (hP : va_P (dC, dI) vwCl [(xq, .inr (8, [.ref x_tape, .ref x_reader, .ref x_current, .ref x_images, .ref x_kept, .ref x_slots, .ref x_diary, .ref x_base, .ref x_trial, .ref x_plan, .ref x_orders, .ref x_unanswered, .int 0, .int 0, .int (-1)])), (x_current, .inr (7, [.int 0, .int 0, .int 0, .int 0, .int 0, .int 0, .int 0, .int 0, .ref t0, .ref t1, .ref t2, .ref t3, .ref t4, .ref t5, .ref t6, .ref t7, .ref t8, .ref t9])), (mq, .inr (9, [.int 0, .ref m_width, .ref m_many, .ref m_cells, .ref m_moved, .ref m_tape, .int 0, .int 0, .int 0, .int 0, .int 0, .long 0, .int 0, .int 0, .int 0, .int (-1), .ref m_lines, .ref m_has, .ref m_person, .ref m_letter, .int 0, .ref m_isKept, .ref m_more, .int 0, .ref m_came, .ref m_answered, .ref m_left, .ref m_leftOn, .ref m_isBurnt, .ref m_heard, .ref m_waitsOn, .ref m_idleOn, .ref m_row, .int 0, .int 0, .long 0, .ref m_key, .int 0, .int 0, .int 0, .int 0, .int 0, .int 0, .int 0, .int 0, .ref m_coming, .int 0, .ref m_tried, .ref m_bestOrder, .int 0, .int 0, .ref m_before, .int 0, .ref m_open])), (m_lines, .inl (mk_lines, 5, .inl (fun _ => 0)))] H) (hD : va_D (fun q : Nat => s.heap.size ≤ q) [(xq, .inr (8, [.ref x_tape, .ref x_reader, .ref x_current, .ref x_images, .ref x_kept, .ref x_slots, .ref x_diary, .ref x_base, .ref x_trial, .ref x_plan, .ref x_orders, .ref x_unanswered, .int 0, .int 0, .int (-1)])), (x_current, .inr (7, [.int 0, .int 0, .int 0, .int 0, .int 0, .int 0, .int 0, .int 0, .ref t0, .ref t1, .ref t2, .ref t3, .ref t4, .ref t5, .ref t6, .ref t7, .ref t8, .ref t9])), (mq, .inr (9, [.int 0, .ref m_width, .ref m_many, .ref m_cells, .ref m_moved, .ref m_tape, .int 0, .int 0, .int 0, .int 0, .int 0, .long 0, .int 0, .int 0, .int 0, .int (-1), .ref m_lines, .ref m_has, .ref m_person, .ref m_letter, .int 0, .ref m_isKept, .ref m_more, .int 0, .ref m_came, .ref m_answered, .ref m_left, .ref m_leftOn, .ref m_isBurnt, .ref m_heard, .ref m_waitsOn, .ref m_idleOn, .ref m_row, .int 0, .int 0, .long 0, .ref m_key, .int 0, .int 0, .int 0, .int 0, .int 0, .int 0, .int 0, .int 0, .ref m_coming, .int 0, .ref m_tried, .ref m_bestOrder, .int 0, .int 0, .ref m_before, .int 0, .ref m_open])), (m_lines, .inl (mk_lines, 5, .inl (fun _ => 0)))]) (hS : va_S (fun q : Nat => s.heap.size ≤ q) s.heap H locs) (hl : lv_has ls 4 [(3, .int 0), (2, .ref mq), (1, .ref xq), (0, .ref b)]) : W p l e room_1 s m #[Value.ref b] below meth c H locs 144 16687 (lw_Z below #[Value.ref b] s) (F0 m 795 ls []) := by
  obtain ⟨hx, hb, hr, hml, hown, hts0, hX, hbl, hlocks, hgv⟩ := id C0
  have hts : ∀ w ∈ ALLW, w.before #[Value.ref b] s = true := fun w h => hts0 w (inT w h)
  have hA : ∀ q : Nat, s.heap.size ≤ q → (fun q : Nat => s.heap.size ≤ q) q := fun _ h => h
  have hbA : ¬ (fun q : Nat => s.heap.size ≤ q) b := Nat.not_le.mpr hbl
  refine lv_aload_n hx hb dL_law_795 rfl (lv_at hl 2 rfl) ?_
  refine lv_aload_n hx hb dL_law_796 rfl (lv_at hl 3 rfl) ?_
  refine lv_iload_n hx hb dL_law_797 rfl (lv_at hl 0 rfl) ?_
  refine lv_iconst (v := 1) hx hb dL_law_798 (by decide) ?_
  refine lv_iadd hx hb dL_law_799 ?_
  refine lv_topi (fun x_1 ex_1 => ?_)
  obtain rfl : x_1 = 1 := ex_1.trans (by decide +kernel)
  refine va_sld hx hb hX hbl hbA hS (show vp_in 1 6 from (by unfold vp_in; decide)) dL_law_800 ?_
  refine lv_topi (fun x_2 ex_2 => ?_)
  obtain rfl : x_2 = xs 1 := ex_2.trans (congrArg xs (by decide))
  have hPc := hP.sub (ws' := [(xq, .inr (8, [.ref x_tape, .ref x_reader, .ref x_current, .ref x_images, .ref x_kept, .ref x_slots, .ref x_diary, .ref x_base, .ref x_trial, .ref x_plan, .ref x_orders, .ref x_unanswered, .int 0, .int 0, .int (-1)])), (x_current, .inr (7, [.int 0, .int 0, .int 0, .int 0, .int 0, .int 0, .int 0, .int 0, .ref t0, .ref t1, .ref t2, .ref t3, .ref t4, .ref t5, .ref t6, .ref t7, .ref t8, .ref t9]))]) [0, 1] rfl
  have hDc := hD.sub (ws' := [(xq, .inr (8, [.ref x_tape, .ref x_reader, .ref x_current, .ref x_images, .ref x_kept, .ref x_slots, .ref x_diary, .ref x_base, .ref x_trial, .ref x_plan, .ref x_orders, .ref x_unanswered, .int 0, .int 0, .int (-1)])), (x_current, .inr (7, [.int 0, .int 0, .int 0, .int 0, .int 0, .int 0, .int 0, .int 0, .ref t0, .ref t1, .ref t2, .ref t3, .ref t4, .ref t5, .ref t6, .ref t7, .ref t8, .ref t9]))]) [0, 1] (by decide) rfl
  have hKc := hK.sub (tys' := []) [] rfl
  have hFc := va_free (wc := [(xq, .inr (8, [.ref x_tape, .ref x_reader, .ref x_current, .ref x_images, .ref x_kept, .ref x_slots, .ref x_diary, .ref x_base, .ref x_trial, .ref x_plan, .ref x_orders, .ref x_unanswered, .int 0, .int 0, .int (-1)])), (x_current, .inr (7, [.int 0, .int 0, .int 0, .int 0, .int 0, .int 0, .int 0, .int 0, .ref t0, .ref t1, .ref t2, .ref t3, .ref t4, .ref t5, .ref t6, .ref t7, .ref t8, .ref t9]))]) hD hS hA [0, 1] rfl
  refine va_calli (va_runV (As := [.int (xs 1)]) (rest := []) ⟨hx, hb, hml, hown, hts⟩ (x_late l dC dI H.size xq x_tape x_reader x_current x_images x_kept x_slots x_diary x_base x_trial x_plan x_orders x_unanswered t0 t1 t2 t3 t4 t5 t6 t7 t8 t9 ((xs 1)) ) (cwV 1 hts (goodV w_990 w_991 w_992 w_2 w_993) rfl rfl rfl hdV_X8_late ⟨Nat.le_of_ble_eq_true rfl, Nat.le_of_ble_eq_true rfl⟩) ⟨fun a U g mk q => by obtain ⟨q0, q1, qP, qK, qD⟩ := q; exact ⟨q0, q1, qP, va_K.moved (u := U) (U := U.calling g mk a) (Vm.Alike.refl U.vm) qK, qD⟩, va_recv hKc hPc (ci := 8) (q0 := 0) rfl rfl, fun U hU hW => ⟨rfl, by rw [hU], by rw [hU]; exact hPc, va_K.moved hW.alike hKc, hDc.weaken (fun _ _ _ _ => trivial)⟩⟩ rfl rfl hl.1 rfl (lv_room (Nat.le_of_ble_eq_true rfl)) dL_law_801 ⟨Nat.le_of_ble_eq_true rfl, Nat.le_of_ble_eq_true rfl⟩) hS (fun q _ h => hFc q h) hFc (fun r_3 u t H1 locs ht hvm hw hB hz1 hk1 hS => ?_)
  obtain ⟨hP, hD⟩ := va_join (wr := [(mq, .inr (9, [.int 0, .ref m_width, .ref m_many, .ref m_cells, .ref m_moved, .ref m_tape, .int 0, .int 0, .int 0, .int 0, .int 0, .long 0, .int 0, .int 0, .int 0, .int (-1), .ref m_lines, .ref m_has, .ref m_person, .ref m_letter, .int 0, .ref m_isKept, .ref m_more, .int 0, .ref m_came, .ref m_answered, .ref m_left, .ref m_leftOn, .ref m_isBurnt, .ref m_heard, .ref m_waitsOn, .ref m_idleOn, .ref m_row, .int 0, .int 0, .long 0, .ref m_key, .int 0, .int 0, .int 0, .int 0, .int 0, .int 0, .int 0, .int 0, .ref m_coming, .int 0, .ref m_tried, .ref m_bestOrder, .int 0, .int 0, .ref m_before, .int 0, .ref m_open])), (m_lines, .inl (mk_lines, 5, .inl (fun _ => 0)))]) (w1 := []) hP hD [0, 1] [2, 3] rfl rfl (by decide) (by decide) hk1 hFc nilP nilD
  clear hPc hDc hKc hFc
  generalize H1 = H at hP hS ⊢
  have hP : va_P (dC, dI) vwCl [(mq, .inr (9, [.int 0, .ref m_width, .ref m_many, .ref m_cells, .ref m_moved, .ref m_tape, .int 0, .int 0, .int 0, .int 0, .int 0, .long 0, .int 0, .int 0, .int 0, .int (-1), .ref m_lines, .ref m_has, .ref m_person, .ref m_letter, .int 0, .ref m_isKept, .ref m_more, .int 0, .ref m_came, .ref m_answered, .ref m_left, .ref m_leftOn, .ref m_isBurnt, .ref m_heard, .ref m_waitsOn, .ref m_idleOn, .ref m_row, .int 0, .int 0, .long 0, .ref m_key, .int 0, .int 0, .int 0, .int 0, .int 0, .int 0, .int 0, .int 0, .ref m_coming, .int 0, .ref m_tried, .ref m_bestOrder, .int 0, .int 0, .ref m_before, .int 0, .ref m_open])), (m_lines, .inl (mk_lines, 5, .inl (fun _ => 0)))] H := hP
  have hD : va_D (fun q : Nat => s.heap.size ≤ q) [(mq, .inr (9, [.int 0, .ref m_width, .ref m_many, .ref m_cells, .ref m_moved, .ref m_tape, .int 0, .int 0, .int 0, .int 0, .int 0, .long 0, .int 0, .int 0, .int 0, .int (-1), .ref m_lines, .ref m_has, .ref m_person, .ref m_letter, .int 0, .ref m_isKept, .ref m_more, .int 0, .ref m_came, .ref m_answered, .ref m_left, .ref m_leftOn, .ref m_isBurnt, .ref m_heard, .ref m_waitsOn, .ref m_idleOn, .ref m_row, .int 0, .int 0, .long 0, .ref m_key, .int 0, .int 0, .int 0, .int 0, .int 0, .int 0, .int 0, .int 0, .ref m_coming, .int 0, .ref m_tried, .ref m_bestOrder, .int 0, .int 0, .ref m_before, .int 0, .ref m_open])), (m_lines, .inl (mk_lines, 5, .inl (fun _ => 0)))] := hD
  have hw : r_3 = (-2) := hw
  subst hw
  refine lv_aload_n hx hb dL_law_804 rfl (lv_at hl 1 rfl) ?_
  refine lv_aload_n hx hb dL_law_805 rfl (lv_at hl 3 rfl) ?_
  refine lv_iload_n hx hb dL_law_806 rfl (lv_at hl 0 rfl) ?_
  refine lv_iconst (v := 1) hx hb dL_law_807 (by decide) ?_
  refine lv_iadd hx hb dL_law_808 ?_
  refine lv_topi (fun x_4 ex_4 => ?_)
  obtain rfl : x_4 = 1 := ex_4.trans (by decide +kernel)
  refine va_sld hx hb hX hbl hbA hS (show vp_in 1 6 from (by unfold vp_in; decide)) dL_law_809 ?_
  refine lv_topi (fun x_5 ex_5 => ?_)
  obtain rfl : x_5 = xs 1 := ex_5.trans (congrArg xs (by decide))
  have hPc := hP.sub (ws' := [(mq, .inr (9, [.int 0, .ref m_width, .ref m_many, .ref m_cells, .ref m_moved, .ref m_tape, .int 0, .int 0, .int 0, .int 0, .int 0, .long 0, .int 0, .int 0, .int 0, .int (-1), .ref m_lines, .ref m_has, .ref m_person, .ref m_letter, .int 0, .ref m_isKept, .ref m_more, .int 0, .ref m_came, .ref m_answered, .ref m_left, .ref m_leftOn, .ref m_isBurnt, .ref m_heard, .ref m_waitsOn, .ref m_idleOn, .ref m_row, .int 0, .int 0, .long 0, .ref m_key, .int 0, .int 0, .int 0, .int 0, .int 0, .int 0, .int 0, .int 0, .ref m_coming, .int 0, .ref m_tried, .ref m_bestOrder, .int 0, .int 0, .ref m_before, .int 0, .ref m_open])), (m_lines, .inl (mk_lines, 5, .inl (fun _ => 0)))]) [0, 1] rfl
  have hDc := hD.sub (ws' := [(mq, .inr (9, [.int 0, .ref m_width, .ref m_many, .ref m_cells, .ref m_moved, .ref m_tape, .int 0, .int 0, .int 0, .int 0, .int 0, .long 0, .int 0, .int 0, .int 0, .int (-1), .ref m_lines, .ref m_has, .ref m_person, .ref m_letter, .int 0, .ref m_isKept, .ref m_more, .int 0, .ref m_came, .ref m_answered, .ref m_left, .ref m_leftOn, .ref m_isBurnt, .ref m_heard, .ref m_waitsOn, .ref m_idleOn, .ref m_row, .int 0, .int 0, .long 0, .ref m_key, .int 0, .int 0, .int 0, .int 0, .int 0, .int 0, .int 0, .int 0, .ref m_coming, .int 0, .ref m_tried, .ref m_bestOrder, .int 0, .int 0, .ref m_before, .int 0, .ref m_open])), (m_lines, .inl (mk_lines, 5, .inl (fun _ => 0)))]) [0, 1] (by decide) rfl
  have hKc := hK.sub (tys' := [(mk_lines, .int)]) [0] rfl
  have hFc := va_free (wc := [(mq, .inr (9, [.int 0, .ref m_width, .ref m_many, .ref m_cells, .ref m_moved, .ref m_tape, .int 0, .int 0, .int 0, .int 0, .int 0, .long 0, .int 0, .int 0, .int 0, .int (-1), .ref m_lines, .ref m_has, .ref m_person, .ref m_letter, .int 0, .ref m_isKept, .ref m_more, .int 0, .ref m_came, .ref m_answered, .ref m_left, .ref m_leftOn, .ref m_isBurnt, .ref m_heard, .ref m_waitsOn, .ref m_idleOn, .ref m_row, .int 0, .int 0, .long 0, .ref m_key, .int 0, .int 0, .int 0, .int 0, .int 0, .int 0, .int 0, .int 0, .ref m_coming, .int 0, .ref m_tried, .ref m_bestOrder, .int 0, .int 0, .ref m_before, .int 0, .ref m_open])), (m_lines, .inl (mk_lines, 5, .inl (fun _ => 0)))]) hD hS hA [0, 1] rfl
  refine va_calli (va_runV (As := [.int (xs 1)]) (rest := [.int (-2)]) ⟨hx, hb, hml, hown, hts⟩ (mc_late l dC dI H.size mq m_width m_many m_cells m_moved m_tape m_lines m_has m_person m_letter m_isKept m_more m_came m_answered m_left m_leftOn m_isBurnt m_heard m_waitsOn m_idleOn m_row m_key m_coming m_tried m_bestOrder m_before m_open mk_lines ((xs 1)) ) (cwV 1 hts (goodV w_1000 w_1001 w_1002 w_5 w_1003) rfl rfl rfl hdV_X9_late ⟨Nat.le_of_ble_eq_true rfl, Nat.le_of_ble_eq_true rfl⟩) ⟨fun a U g mk q => by obtain ⟨q0, q1, qP, qK, qD⟩ := q; exact ⟨q0, q1, qP, va_K.moved (u := U) (U := U.calling g mk a) (Vm.Alike.refl U.vm) qK, qD⟩, va_recv hKc hPc (ci := 9) (q0 := 0) rfl rfl, fun U hU hW => ⟨rfl, by rw [hU], by rw [hU]; exact hPc, va_K.moved hW.alike hKc, hDc.weaken (fun _ _ _ _ => trivial)⟩⟩ rfl rfl hl.1 rfl (lv_room (Nat.le_of_ble_eq_true rfl)) dL_law_810 ⟨Nat.le_of_ble_eq_true rfl, Nat.le_of_ble_eq_true rfl⟩) hS (fun q _ h => hFc q h) hFc (fun r_6 u t H1 locs ht hvm hw hB hz1 hk1 hS => ?_)
  obtain ⟨hP, hD⟩ := va_join (wr := []) (w1 := []) hP hD [0, 1] [] rfl rfl (by decide) (by decide) hk1 hFc nilP nilD
  clear hPc hDc hKc hFc
  generalize H1 = H at hP hS ⊢
  have hP : va_P (dC, dI) vwCl [] H := hP
  have hD : va_D (fun q : Nat => s.heap.size ≤ q) [] := hD
  have hw : r_6 = (-2) := hw
  subst hw
  refine lv_icmp_eq (tgt := 1677) hx hb dL_law_813 (by decide) (fun c_7 => ?_) (fun c_7 => absurd (by decide) c_7)
  exact law_tail C0 hS (lv_sub hl [0, 3] rfl)

set_option maxHeartbeats 4000000 in
set_option maxRecDepth 100000 in
theorem law_sum {p : Program} {l : Launch} {e : Env} {s : State} {m : MethodId} {below : List Frame} {meth : Method} {c : Code} {dC : Nat → ClassId} {dI : Nat → Nat → Nat} {b : Nat} {xs : Nat → Int32} {H : Heap} {locs : List Loc} {ls : Array Slot} {x_tape : Nat} {x_reader : Nat} {x_current : Nat} {x_images : Nat} {x_kept : Nat} {x_slots : Nat} {x_diary : Nat} {x_base : Nat} {x_trial : Nat} {x_plan : Nat} {x_orders : Nat} {x_unanswered : Nat} {t0 : Nat} {t1 : Nat} {t2 : Nat} {t3 : Nat} {t4 : Nat} {t5 : Nat} {t6 : Nat} {t7 : Nat} {t8 : Nat} {t9 : Nat} {m_width : Nat} {m_many : Nat} {m_cells : Nat} {m_moved : Nat} {m_tape : Nat} {m_lines : Nat} {m_has : Nat} {m_person : Nat} {m_letter : Nat} {m_isKept : Nat} {m_more : Nat} {m_came : Nat} {m_answered : Nat} {m_left : Nat} {m_leftOn : Nat} {m_isBurnt : Nat} {m_heard : Nat} {m_waitsOn : Nat} {m_idleOn : Nat} {m_row : Nat} {m_key : Nat} {m_coming : Nat} {m_tried : Nat} {m_bestOrder : Nat} {m_before : Nat} {m_open : Nat} {mk_lines : ClassId} {xq : Nat} {mq : Nat} (C0 : lw_At p s m meth c b 6 xs)  (hK : va_K (dC, dI) vwCl [(mk_lines, .int)] s) (hP : va_P (dC, dI) vwCl [(xq, .inr (8, [.ref x_tape, .ref x_reader, .ref x_current, .ref x_images, .ref x_kept, .ref x_slots, .ref x_diary, .ref x_base, .ref x_trial, .ref x_plan, .ref x_orders, .ref x_unanswered, .int 0, .int 0, .int (-1)])), (x_current, .inr (7, [.int 0, .int 0, .int 0, .int 0, .int 0, .int 0, .int 0, .int 0, .ref t0, .ref t1, .ref t2, .ref t3, .ref t4, .ref t5, .ref t6, .ref t7, .ref t8, .ref t9])), (mq, .inr (9, [.int 0, .ref m_width, .ref m_many, .ref m_cells, .ref m_moved, .ref m_tape, .int 0, .int 0, .int 0, .int 0, .int 0, .long 0, .int 0, .int 0, .int 0, .int (-1), .ref m_lines, .ref m_has, .ref m_person, .ref m_letter, .int 0, .ref m_isKept, .ref m_more, .int 0, .ref m_came, .ref m_answered, .ref m_left, .ref m_leftOn, .ref m_isBurnt, .ref m_heard, .ref m_waitsOn, .ref m_idleOn, .ref m_row, .int 0, .int 0, .long 0, .ref m_key, .int 0, .int 0, .int 0, .int 0, .int 0, .int 0, .int 0, .int 0, .ref m_coming, .int 0, .ref m_tried, .ref m_bestOrder, .int 0, .int 0, .ref m_before, .int 0, .ref m_open])), (m_lines, .inl (mk_lines, 5, .inl (fun _ => 0)))] H) (hD : va_D (fun q : Nat => s.heap.size ≤ q) [(xq, .inr (8, [.ref x_tape, .ref x_reader, .ref x_current, .ref x_images, .ref x_kept, .ref x_slots, .ref x_diary, .ref x_base, .ref x_trial, .ref x_plan, .ref x_orders, .ref x_unanswered, .int 0, .int 0, .int (-1)])), (x_current, .inr (7, [.int 0, .int 0, .int 0, .int 0, .int 0, .int 0, .int 0, .int 0, .ref t0, .ref t1, .ref t2, .ref t3, .ref t4, .ref t5, .ref t6, .ref t7, .ref t8, .ref t9])), (mq, .inr (9, [.int 0, .ref m_width, .ref m_many, .ref m_cells, .ref m_moved, .ref m_tape, .int 0, .int 0, .int 0, .int 0, .int 0, .long 0, .int 0, .int 0, .int 0, .int (-1), .ref m_lines, .ref m_has, .ref m_person, .ref m_letter, .int 0, .ref m_isKept, .ref m_more, .int 0, .ref m_came, .ref m_answered, .ref m_left, .ref m_leftOn, .ref m_isBurnt, .ref m_heard, .ref m_waitsOn, .ref m_idleOn, .ref m_row, .int 0, .int 0, .long 0, .ref m_key, .int 0, .int 0, .int 0, .int 0, .int 0, .int 0, .int 0, .int 0, .ref m_coming, .int 0, .ref m_tried, .ref m_bestOrder, .int 0, .int 0, .ref m_before, .int 0, .ref m_open])), (m_lines, .inl (mk_lines, 5, .inl (fun _ => 0)))]) (hS : va_S (fun q : Nat => s.heap.size ≤ q) s.heap H locs) (hl : lv_has ls 4 [(3, .int 0), (2, .ref mq), (1, .ref xq), (0, .ref b)]) : W p l e room_1 s m #[Value.ref b] below meth c H locs 144 16687 (lw_Z below #[Value.ref b] s) (F0 m 818 ls []) := by
  obtain ⟨hx, hb, hr, hml, hown, hts0, hX, hbl, hlocks, hgv⟩ := id C0
  have hts : ∀ w ∈ ALLW, w.before #[Value.ref b] s = true := fun w h => hts0 w (inT w h)
  have hA : ∀ q : Nat, s.heap.size ≤ q → (fun q : Nat => s.heap.size ≤ q) q := fun _ h => h
  have hbA : ¬ (fun q : Nat => s.heap.size ≤ q) b := Nat.not_le.mpr hbl
  refine lv_aload_n hx hb dL_law_818 rfl (lv_at hl 2 rfl) ?_
  refine lv_aload_n hx hb dL_law_819 rfl (lv_at hl 3 rfl) ?_
  refine lv_iload_n hx hb dL_law_820 rfl (lv_at hl 0 rfl) ?_
  refine lv_iconst (v := 1) hx hb dL_law_821 (by decide) ?_
  refine lv_iadd hx hb dL_law_822 ?_
  refine lv_topi (fun x_1 ex_1 => ?_)
  obtain rfl : x_1 = 1 := ex_1.trans (by decide +kernel)
  refine va_sld hx hb hX hbl hbA hS (show vp_in 1 6 from (by unfold vp_in; decide)) dL_law_823 ?_
  refine lv_topi (fun x_2 ex_2 => ?_)
  obtain rfl : x_2 = xs 1 := ex_2.trans (congrArg xs (by decide))
  have hPc := hP.sub (ws' := [(xq, .inr (8, [.ref x_tape, .ref x_reader, .ref x_current, .ref x_images, .ref x_kept, .ref x_slots, .ref x_diary, .ref x_base, .ref x_trial, .ref x_plan, .ref x_orders, .ref x_unanswered, .int 0, .int 0, .int (-1)])), (x_current, .inr (7, [.int 0, .int 0, .int 0, .int 0, .int 0, .int 0, .int 0, .int 0, .ref t0, .ref t1, .ref t2, .ref t3, .ref t4, .ref t5, .ref t6, .ref t7, .ref t8, .ref t9]))]) [0, 1] rfl
  have hDc := hD.sub (ws' := [(xq, .inr (8, [.ref x_tape, .ref x_reader, .ref x_current, .ref x_images, .ref x_kept, .ref x_slots, .ref x_diary, .ref x_base, .ref x_trial, .ref x_plan, .ref x_orders, .ref x_unanswered, .int 0, .int 0, .int (-1)])), (x_current, .inr (7, [.int 0, .int 0, .int 0, .int 0, .int 0, .int 0, .int 0, .int 0, .ref t0, .ref t1, .ref t2, .ref t3, .ref t4, .ref t5, .ref t6, .ref t7, .ref t8, .ref t9]))]) [0, 1] (by decide) rfl
  have hKc := hK.sub (tys' := []) [] rfl
  have hFc := va_free (wc := [(xq, .inr (8, [.ref x_tape, .ref x_reader, .ref x_current, .ref x_images, .ref x_kept, .ref x_slots, .ref x_diary, .ref x_base, .ref x_trial, .ref x_plan, .ref x_orders, .ref x_unanswered, .int 0, .int 0, .int (-1)])), (x_current, .inr (7, [.int 0, .int 0, .int 0, .int 0, .int 0, .int 0, .int 0, .int 0, .ref t0, .ref t1, .ref t2, .ref t3, .ref t4, .ref t5, .ref t6, .ref t7, .ref t8, .ref t9]))]) hD hS hA [0, 1] rfl
  refine va_calli (va_runV (As := [.int (xs 1)]) (rest := []) ⟨hx, hb, hml, hown, hts⟩ (x_sum l dC dI H.size xq x_tape x_reader x_current x_images x_kept x_slots x_diary x_base x_trial x_plan x_orders x_unanswered t0 t1 t2 t3 t4 t5 t6 t7 t8 t9 ((xs 1)) ) (cwV 1 hts (goodV w_1008 w_1009 w_1010 w_2 w_1011) rfl rfl rfl hdV_X8_sum ⟨Nat.le_of_ble_eq_true rfl, Nat.le_of_ble_eq_true rfl⟩) ⟨fun a U g mk q => by obtain ⟨q0, q1, qP, qK, qD⟩ := q; exact ⟨q0, q1, qP, va_K.moved (u := U) (U := U.calling g mk a) (Vm.Alike.refl U.vm) qK, qD⟩, va_recv hKc hPc (ci := 8) (q0 := 0) rfl rfl, fun U hU hW => ⟨rfl, by rw [hU], by rw [hU]; exact hPc, va_K.moved hW.alike hKc, hDc.weaken (fun _ _ _ _ => trivial)⟩⟩ rfl rfl hl.1 rfl (lv_room (Nat.le_of_ble_eq_true rfl)) dL_law_824 ⟨Nat.le_of_ble_eq_true rfl, Nat.le_of_ble_eq_true rfl⟩) hS (fun q _ h => hFc q h) hFc (fun r_3 u t H1 locs ht hvm hw hB hz1 hk1 hS => ?_)
  obtain ⟨hP, hD⟩ := va_join (wr := [(mq, .inr (9, [.int 0, .ref m_width, .ref m_many, .ref m_cells, .ref m_moved, .ref m_tape, .int 0, .int 0, .int 0, .int 0, .int 0, .long 0, .int 0, .int 0, .int 0, .int (-1), .ref m_lines, .ref m_has, .ref m_person, .ref m_letter, .int 0, .ref m_isKept, .ref m_more, .int 0, .ref m_came, .ref m_answered, .ref m_left, .ref m_leftOn, .ref m_isBurnt, .ref m_heard, .ref m_waitsOn, .ref m_idleOn, .ref m_row, .int 0, .int 0, .long 0, .ref m_key, .int 0, .int 0, .int 0, .int 0, .int 0, .int 0, .int 0, .int 0, .ref m_coming, .int 0, .ref m_tried, .ref m_bestOrder, .int 0, .int 0, .ref m_before, .int 0, .ref m_open])), (m_lines, .inl (mk_lines, 5, .inl (fun _ => 0)))]) (w1 := []) hP hD [0, 1] [2, 3] rfl rfl (by decide) (by decide) hk1 hFc nilP nilD
  clear hPc hDc hKc hFc
  generalize H1 = H at hP hS ⊢
  have hP : va_P (dC, dI) vwCl [(mq, .inr (9, [.int 0, .ref m_width, .ref m_many, .ref m_cells, .ref m_moved, .ref m_tape, .int 0, .int 0, .int 0, .int 0, .int 0, .long 0, .int 0, .int 0, .int 0, .int (-1), .ref m_lines, .ref m_has, .ref m_person, .ref m_letter, .int 0, .ref m_isKept, .ref m_more, .int 0, .ref m_came, .ref m_answered, .ref m_left, .ref m_leftOn, .ref m_isBurnt, .ref m_heard, .ref m_waitsOn, .ref m_idleOn, .ref m_row, .int 0, .int 0, .long 0, .ref m_key, .int 0, .int 0, .int 0, .int 0, .int 0, .int 0, .int 0, .int 0, .ref m_coming, .int 0, .ref m_tried, .ref m_bestOrder, .int 0, .int 0, .ref m_before, .int 0, .ref m_open])), (m_lines, .inl (mk_lines, 5, .inl (fun _ => 0)))] H := hP
  have hD : va_D (fun q : Nat => s.heap.size ≤ q) [(mq, .inr (9, [.int 0, .ref m_width, .ref m_many, .ref m_cells, .ref m_moved, .ref m_tape, .int 0, .int 0, .int 0, .int 0, .int 0, .long 0, .int 0, .int 0, .int 0, .int (-1), .ref m_lines, .ref m_has, .ref m_person, .ref m_letter, .int 0, .ref m_isKept, .ref m_more, .int 0, .ref m_came, .ref m_answered, .ref m_left, .ref m_leftOn, .ref m_isBurnt, .ref m_heard, .ref m_waitsOn, .ref m_idleOn, .ref m_row, .int 0, .int 0, .long 0, .ref m_key, .int 0, .int 0, .int 0, .int 0, .int 0, .int 0, .int 0, .int 0, .ref m_coming, .int 0, .ref m_tried, .ref m_bestOrder, .int 0, .int 0, .ref m_before, .int 0, .ref m_open])), (m_lines, .inl (mk_lines, 5, .inl (fun _ => 0)))] := hD
  have hw : r_3 = (-2) := hw
  subst hw
  refine lv_aload_n hx hb dL_law_827 rfl (lv_at hl 1 rfl) ?_
  refine lv_aload_n hx hb dL_law_828 rfl (lv_at hl 3 rfl) ?_
  refine lv_iload_n hx hb dL_law_829 rfl (lv_at hl 0 rfl) ?_
  refine lv_iconst (v := 1) hx hb dL_law_830 (by decide) ?_
  refine lv_iadd hx hb dL_law_831 ?_
  refine lv_topi (fun x_4 ex_4 => ?_)
  obtain rfl : x_4 = 1 := ex_4.trans (by decide +kernel)
  refine va_sld hx hb hX hbl hbA hS (show vp_in 1 6 from (by unfold vp_in; decide)) dL_law_832 ?_
  refine lv_topi (fun x_5 ex_5 => ?_)
  obtain rfl : x_5 = xs 1 := ex_5.trans (congrArg xs (by decide))
  have hPc := hP.sub (ws' := [(mq, .inr (9, [.int 0, .ref m_width, .ref m_many, .ref m_cells, .ref m_moved, .ref m_tape, .int 0, .int 0, .int 0, .int 0, .int 0, .long 0, .int 0, .int 0, .int 0, .int (-1), .ref m_lines, .ref m_has, .ref m_person, .ref m_letter, .int 0, .ref m_isKept, .ref m_more, .int 0, .ref m_came, .ref m_answered, .ref m_left, .ref m_leftOn, .ref m_isBurnt, .ref m_heard, .ref m_waitsOn, .ref m_idleOn, .ref m_row, .int 0, .int 0, .long 0, .ref m_key, .int 0, .int 0, .int 0, .int 0, .int 0, .int 0, .int 0, .int 0, .ref m_coming, .int 0, .ref m_tried, .ref m_bestOrder, .int 0, .int 0, .ref m_before, .int 0, .ref m_open])), (m_lines, .inl (mk_lines, 5, .inl (fun _ => 0)))]) [0, 1] rfl
  have hDc := hD.sub (ws' := [(mq, .inr (9, [.int 0, .ref m_width, .ref m_many, .ref m_cells, .ref m_moved, .ref m_tape, .int 0, .int 0, .int 0, .int 0, .int 0, .long 0, .int 0, .int 0, .int 0, .int (-1), .ref m_lines, .ref m_has, .ref m_person, .ref m_letter, .int 0, .ref m_isKept, .ref m_more, .int 0, .ref m_came, .ref m_answered, .ref m_left, .ref m_leftOn, .ref m_isBurnt, .ref m_heard, .ref m_waitsOn, .ref m_idleOn, .ref m_row, .int 0, .int 0, .long 0, .ref m_key, .int 0, .int 0, .int 0, .int 0, .int 0, .int 0, .int 0, .int 0, .ref m_coming, .int 0, .ref m_tried, .ref m_bestOrder, .int 0, .int 0, .ref m_before, .int 0, .ref m_open])), (m_lines, .inl (mk_lines, 5, .inl (fun _ => 0)))]) [0, 1] (by decide) rfl
  have hKc := hK.sub (tys' := [(mk_lines, .int)]) [0] rfl
  have hFc := va_free (wc := [(mq, .inr (9, [.int 0, .ref m_width, .ref m_many, .ref m_cells, .ref m_moved, .ref m_tape, .int 0, .int 0, .int 0, .int 0, .int 0, .long 0, .int 0, .int 0, .int 0, .int (-1), .ref m_lines, .ref m_has, .ref m_person, .ref m_letter, .int 0, .ref m_isKept, .ref m_more, .int 0, .ref m_came, .ref m_answered, .ref m_left, .ref m_leftOn, .ref m_isBurnt, .ref m_heard, .ref m_waitsOn, .ref m_idleOn, .ref m_row, .int 0, .int 0, .long 0, .ref m_key, .int 0, .int 0, .int 0, .int 0, .int 0, .int 0, .int 0, .int 0, .ref m_coming, .int 0, .ref m_tried, .ref m_bestOrder, .int 0, .int 0, .ref m_before, .int 0, .ref m_open])), (m_lines, .inl (mk_lines, 5, .inl (fun _ => 0)))]) hD hS hA [0, 1] rfl
  refine va_calli (va_runV (As := [.int (xs 1)]) (rest := [.int (-2)]) ⟨hx, hb, hml, hown, hts⟩ (mc_sum l dC dI H.size mq m_width m_many m_cells m_moved m_tape m_lines m_has m_person m_letter m_isKept m_more m_came m_answered m_left m_leftOn m_isBurnt m_heard m_waitsOn m_idleOn m_row m_key m_coming m_tried m_bestOrder m_before m_open mk_lines ((xs 1)) ) (cwV 1 hts (goodV w_1017 w_1018 w_1019 w_5 w_1020) rfl rfl rfl hdV_X9_sum ⟨Nat.le_of_ble_eq_true rfl, Nat.le_of_ble_eq_true rfl⟩) ⟨fun a U g mk q => by obtain ⟨q0, q1, qP, qK, qD⟩ := q; exact ⟨q0, q1, qP, va_K.moved (u := U) (U := U.calling g mk a) (Vm.Alike.refl U.vm) qK, qD⟩, va_recv hKc hPc (ci := 9) (q0 := 0) rfl rfl, fun U hU hW => ⟨rfl, by rw [hU], by rw [hU]; exact hPc, va_K.moved hW.alike hKc, hDc.weaken (fun _ _ _ _ => trivial)⟩⟩ rfl rfl hl.1 rfl (lv_room (Nat.le_of_ble_eq_true rfl)) dL_law_833 ⟨Nat.le_of_ble_eq_true rfl, Nat.le_of_ble_eq_true rfl⟩) hS (fun q _ h => hFc q h) hFc (fun r_6 u t H1 locs ht hvm hw hB hz1 hk1 hS => ?_)
  obtain ⟨hP, hD⟩ := va_join (wr := []) (w1 := []) hP hD [0, 1] [] rfl rfl (by decide) (by decide) hk1 hFc nilP nilD
  clear hPc hDc hKc hFc
  generalize H1 = H at hP hS ⊢
  have hP : va_P (dC, dI) vwCl [] H := hP
  have hD : va_D (fun q : Nat => s.heap.size ≤ q) [] := hD
  have hw : r_6 = (-2) := hw
  subst hw
  refine lv_icmp_eq (tgt := 1677) hx hb dL_law_836 (by decide) (fun c_7 => ?_) (fun c_7 => absurd (by decide) c_7)
  exact law_tail C0 hS (lv_sub hl [0, 3] rfl)

set_option maxHeartbeats 4000000 in
set_option maxRecDepth 100000 in
theorem law_by {p : Program} {l : Launch} {e : Env} {s : State} {m : MethodId} {below : List Frame} {meth : Method} {c : Code} {dC : Nat → ClassId} {dI : Nat → Nat → Nat} {b : Nat} {xs : Nat → Int32} {H : Heap} {locs : List Loc} {ls : Array Slot} {x_tape : Nat} {x_reader : Nat} {x_current : Nat} {x_images : Nat} {x_kept : Nat} {x_slots : Nat} {x_diary : Nat} {x_base : Nat} {x_trial : Nat} {x_plan : Nat} {x_orders : Nat} {x_unanswered : Nat} {t0 : Nat} {t1 : Nat} {t2 : Nat} {t3 : Nat} {t4 : Nat} {t5 : Nat} {t6 : Nat} {t7 : Nat} {t8 : Nat} {t9 : Nat} {m_width : Nat} {m_many : Nat} {m_cells : Nat} {m_moved : Nat} {m_tape : Nat} {m_lines : Nat} {m_has : Nat} {m_person : Nat} {m_letter : Nat} {m_isKept : Nat} {m_more : Nat} {m_came : Nat} {m_answered : Nat} {m_left : Nat} {m_leftOn : Nat} {m_isBurnt : Nat} {m_heard : Nat} {m_waitsOn : Nat} {m_idleOn : Nat} {m_row : Nat} {m_key : Nat} {m_coming : Nat} {m_tried : Nat} {m_bestOrder : Nat} {m_before : Nat} {m_open : Nat} {mk_lines : ClassId} {xq : Nat} {mq : Nat} (C0 : lw_At p s m meth c b 6 xs)  (hK : va_K (dC, dI) vwCl [(mk_lines, .int)] s) (hP : va_P (dC, dI) vwCl [(xq, .inr (8, [.ref x_tape, .ref x_reader, .ref x_current, .ref x_images, .ref x_kept, .ref x_slots, .ref x_diary, .ref x_base, .ref x_trial, .ref x_plan, .ref x_orders, .ref x_unanswered, .int 0, .int 0, .int (-1)])), (x_current, .inr (7, [.int 0, .int 0, .int 0, .int 0, .int 0, .int 0, .int 0, .int 0, .ref t0, .ref t1, .ref t2, .ref t3, .ref t4, .ref t5, .ref t6, .ref t7, .ref t8, .ref t9])), (mq, .inr (9, [.int 0, .ref m_width, .ref m_many, .ref m_cells, .ref m_moved, .ref m_tape, .int 0, .int 0, .int 0, .int 0, .int 0, .long 0, .int 0, .int 0, .int 0, .int (-1), .ref m_lines, .ref m_has, .ref m_person, .ref m_letter, .int 0, .ref m_isKept, .ref m_more, .int 0, .ref m_came, .ref m_answered, .ref m_left, .ref m_leftOn, .ref m_isBurnt, .ref m_heard, .ref m_waitsOn, .ref m_idleOn, .ref m_row, .int 0, .int 0, .long 0, .ref m_key, .int 0, .int 0, .int 0, .int 0, .int 0, .int 0, .int 0, .int 0, .ref m_coming, .int 0, .ref m_tried, .ref m_bestOrder, .int 0, .int 0, .ref m_before, .int 0, .ref m_open])), (m_lines, .inl (mk_lines, 5, .inl (fun _ => 0)))] H) (hD : va_D (fun q : Nat => s.heap.size ≤ q) [(xq, .inr (8, [.ref x_tape, .ref x_reader, .ref x_current, .ref x_images, .ref x_kept, .ref x_slots, .ref x_diary, .ref x_base, .ref x_trial, .ref x_plan, .ref x_orders, .ref x_unanswered, .int 0, .int 0, .int (-1)])), (x_current, .inr (7, [.int 0, .int 0, .int 0, .int 0, .int 0, .int 0, .int 0, .int 0, .ref t0, .ref t1, .ref t2, .ref t3, .ref t4, .ref t5, .ref t6, .ref t7, .ref t8, .ref t9])), (mq, .inr (9, [.int 0, .ref m_width, .ref m_many, .ref m_cells, .ref m_moved, .ref m_tape, .int 0, .int 0, .int 0, .int 0, .int 0, .long 0, .int 0, .int 0, .int 0, .int (-1), .ref m_lines, .ref m_has, .ref m_person, .ref m_letter, .int 0, .ref m_isKept, .ref m_more, .int 0, .ref m_came, .ref m_answered, .ref m_left, .ref m_leftOn, .ref m_isBurnt, .ref m_heard, .ref m_waitsOn, .ref m_idleOn, .ref m_row, .int 0, .int 0, .long 0, .ref m_key, .int 0, .int 0, .int 0, .int 0, .int 0, .int 0, .int 0, .int 0, .ref m_coming, .int 0, .ref m_tried, .ref m_bestOrder, .int 0, .int 0, .ref m_before, .int 0, .ref m_open])), (m_lines, .inl (mk_lines, 5, .inl (fun _ => 0)))]) (hS : va_S (fun q : Nat => s.heap.size ≤ q) s.heap H locs) (hl : lv_has ls 4 [(3, .int 0), (2, .ref mq), (1, .ref xq), (0, .ref b)]) : W p l e room_1 s m #[Value.ref b] below meth c H locs 144 16687 (lw_Z below #[Value.ref b] s) (F0 m 841 ls []) := by
  obtain ⟨hx, hb, hr, hml, hown, hts0, hX, hbl, hlocks, hgv⟩ := id C0
  have hts : ∀ w ∈ ALLW, w.before #[Value.ref b] s = true := fun w h => hts0 w (inT w h)
  have hA : ∀ q : Nat, s.heap.size ≤ q → (fun q : Nat => s.heap.size ≤ q) q := fun _ h => h
  have hbA : ¬ (fun q : Nat => s.heap.size ≤ q) b := Nat.not_le.mpr hbl
  refine lv_aload_n hx hb dL_law_841 rfl (lv_at hl 2 rfl) ?_
  refine lv_aload_n hx hb dL_law_842 rfl (lv_at hl 3 rfl) ?_
  refine lv_iload_n hx hb dL_law_843 rfl (lv_at hl 0 rfl) ?_
  refine lv_iconst (v := 1) hx hb dL_law_844 (by decide) ?_
  refine lv_iadd hx hb dL_law_845 ?_
  refine lv_topi (fun x_1 ex_1 => ?_)
  obtain rfl : x_1 = 1 := ex_1.trans (by decide +kernel)
  refine va_sld hx hb hX hbl hbA hS (show vp_in 1 6 from (by unfold vp_in; decide)) dL_law_846 ?_
  refine lv_topi (fun x_2 ex_2 => ?_)
  obtain rfl : x_2 = xs 1 := ex_2.trans (congrArg xs (by decide))
  refine lv_aload_n hx hb dL_law_847 rfl (lv_at hl 3 rfl) ?_
  refine lv_iload_n hx hb dL_law_848 rfl (lv_at hl 0 rfl) ?_
  refine lv_iconst (v := 2) hx hb dL_law_849 (by decide) ?_
  refine lv_iadd hx hb dL_law_850 ?_
  refine lv_topi (fun x_3 ex_3 => ?_)
  obtain rfl : x_3 = 2 := ex_3.trans (by decide +kernel)
  refine va_sld hx hb hX hbl hbA hS (show vp_in 2 6 from (by unfold vp_in; decide)) dL_law_851 ?_
  refine lv_topi (fun x_4 ex_4 => ?_)
  obtain rfl : x_4 = xs 2 := ex_4.trans (congrArg xs (by decide))
  refine lv_aload_n hx hb dL_law_852 rfl (lv_at hl 3 rfl) ?_
  refine lv_iload_n hx hb dL_law_853 rfl (lv_at hl 0 rfl) ?_
  refine lv_iconst (v := 3) hx hb dL_law_854 (by decide) ?_
  refine lv_iadd hx hb dL_law_855 ?_
  refine lv_topi (fun x_5 ex_5 => ?_)
  obtain rfl : x_5 = 3 := ex_5.trans (by decide +kernel)
  refine va_sld hx hb hX hbl hbA hS (show vp_in 3 6 from (by unfold vp_in; decide)) dL_law_856 ?_
  refine lv_topi (fun x_6 ex_6 => ?_)
  obtain rfl : x_6 = xs 3 := ex_6.trans (congrArg xs (by decide))
  have hPc := hP.sub (ws' := [(xq, .inr (8, [.ref x_tape, .ref x_reader, .ref x_current, .ref x_images, .ref x_kept, .ref x_slots, .ref x_diary, .ref x_base, .ref x_trial, .ref x_plan, .ref x_orders, .ref x_unanswered, .int 0, .int 0, .int (-1)])), (x_current, .inr (7, [.int 0, .int 0, .int 0, .int 0, .int 0, .int 0, .int 0, .int 0, .ref t0, .ref t1, .ref t2, .ref t3, .ref t4, .ref t5, .ref t6, .ref t7, .ref t8, .ref t9]))]) [0, 1] rfl
  have hDc := hD.sub (ws' := [(xq, .inr (8, [.ref x_tape, .ref x_reader, .ref x_current, .ref x_images, .ref x_kept, .ref x_slots, .ref x_diary, .ref x_base, .ref x_trial, .ref x_plan, .ref x_orders, .ref x_unanswered, .int 0, .int 0, .int (-1)])), (x_current, .inr (7, [.int 0, .int 0, .int 0, .int 0, .int 0, .int 0, .int 0, .int 0, .ref t0, .ref t1, .ref t2, .ref t3, .ref t4, .ref t5, .ref t6, .ref t7, .ref t8, .ref t9]))]) [0, 1] (by decide) rfl
  have hKc := hK.sub (tys' := []) [] rfl
  have hFc := va_free (wc := [(xq, .inr (8, [.ref x_tape, .ref x_reader, .ref x_current, .ref x_images, .ref x_kept, .ref x_slots, .ref x_diary, .ref x_base, .ref x_trial, .ref x_plan, .ref x_orders, .ref x_unanswered, .int 0, .int 0, .int (-1)])), (x_current, .inr (7, [.int 0, .int 0, .int 0, .int 0, .int 0, .int 0, .int 0, .int 0, .ref t0, .ref t1, .ref t2, .ref t3, .ref t4, .ref t5, .ref t6, .ref t7, .ref t8, .ref t9]))]) hD hS hA [0, 1] rfl
  refine va_calli (va_runV (As := [.int (xs 1), .int (xs 2), .int (xs 3)]) (rest := []) ⟨hx, hb, hml, hown, hts⟩ (x_by l dC dI H.size xq x_tape x_reader x_current x_images x_kept x_slots x_diary x_base x_trial x_plan x_orders x_unanswered t0 t1 t2 t3 t4 t5 t6 t7 t8 t9 ((xs 1)) ((xs 2)) ((xs 3)) ) (cwV 3 hts (goodV w_1025 w_1026 w_1027 w_2 w_1028) rfl rfl rfl hdV_X8_by ⟨Nat.le_of_ble_eq_true rfl, Nat.le_of_ble_eq_true rfl⟩) ⟨fun a U g mk q => by obtain ⟨q0, q1, qP, qK, qD⟩ := q; exact ⟨q0, q1, qP, va_K.moved (u := U) (U := U.calling g mk a) (Vm.Alike.refl U.vm) qK, qD⟩, va_recv hKc hPc (ci := 8) (q0 := 0) rfl rfl, fun U hU hW => ⟨rfl, by rw [hU], by rw [hU]; exact hPc, va_K.moved hW.alike hKc, hDc.weaken (fun _ _ _ _ => trivial)⟩⟩ rfl rfl hl.1 rfl (lv_room (Nat.le_of_ble_eq_true rfl)) dL_law_857 ⟨Nat.le_of_ble_eq_true rfl, Nat.le_of_ble_eq_true rfl⟩) hS (fun q _ h => hFc q h) hFc (fun r_7 u t H1 locs ht hvm hw hB hz1 hk1 hS => ?_)
  obtain ⟨hP, hD⟩ := va_join (wr := [(mq, .inr (9, [.int 0, .ref m_width, .ref m_many, .ref m_cells, .ref m_moved, .ref m_tape, .int 0, .int 0, .int 0, .int 0, .int 0, .long 0, .int 0, .int 0, .int 0, .int (-1), .ref m_lines, .ref m_has, .ref m_person, .ref m_letter, .int 0, .ref m_isKept, .ref m_more, .int 0, .ref m_came, .ref m_answered, .ref m_left, .ref m_leftOn, .ref m_isBurnt, .ref m_heard, .ref m_waitsOn, .ref m_idleOn, .ref m_row, .int 0, .int 0, .long 0, .ref m_key, .int 0, .int 0, .int 0, .int 0, .int 0, .int 0, .int 0, .int 0, .ref m_coming, .int 0, .ref m_tried, .ref m_bestOrder, .int 0, .int 0, .ref m_before, .int 0, .ref m_open])), (m_lines, .inl (mk_lines, 5, .inl (fun _ => 0)))]) (w1 := []) hP hD [0, 1] [2, 3] rfl rfl (by decide) (by decide) hk1 hFc nilP nilD
  clear hPc hDc hKc hFc
  generalize H1 = H at hP hS ⊢
  have hP : va_P (dC, dI) vwCl [(mq, .inr (9, [.int 0, .ref m_width, .ref m_many, .ref m_cells, .ref m_moved, .ref m_tape, .int 0, .int 0, .int 0, .int 0, .int 0, .long 0, .int 0, .int 0, .int 0, .int (-1), .ref m_lines, .ref m_has, .ref m_person, .ref m_letter, .int 0, .ref m_isKept, .ref m_more, .int 0, .ref m_came, .ref m_answered, .ref m_left, .ref m_leftOn, .ref m_isBurnt, .ref m_heard, .ref m_waitsOn, .ref m_idleOn, .ref m_row, .int 0, .int 0, .long 0, .ref m_key, .int 0, .int 0, .int 0, .int 0, .int 0, .int 0, .int 0, .int 0, .ref m_coming, .int 0, .ref m_tried, .ref m_bestOrder, .int 0, .int 0, .ref m_before, .int 0, .ref m_open])), (m_lines, .inl (mk_lines, 5, .inl (fun _ => 0)))] H := hP
  have hD : va_D (fun q : Nat => s.heap.size ≤ q) [(mq, .inr (9, [.int 0, .ref m_width, .ref m_many, .ref m_cells, .ref m_moved, .ref m_tape, .int 0, .int 0, .int 0, .int 0, .int 0, .long 0, .int 0, .int 0, .int 0, .int (-1), .ref m_lines, .ref m_has, .ref m_person, .ref m_letter, .int 0, .ref m_isKept, .ref m_more, .int 0, .ref m_came, .ref m_answered, .ref m_left, .ref m_leftOn, .ref m_isBurnt, .ref m_heard, .ref m_waitsOn, .ref m_idleOn, .ref m_row, .int 0, .int 0, .long 0, .ref m_key, .int 0, .int 0, .int 0, .int 0, .int 0, .int 0, .int 0, .int 0, .ref m_coming, .int 0, .ref m_tried, .ref m_bestOrder, .int 0, .int 0, .ref m_before, .int 0, .ref m_open])), (m_lines, .inl (mk_lines, 5, .inl (fun _ => 0)))] := hD
  have hw : r_7 = (-2) := hw
  subst hw
  refine lv_aload_n hx hb dL_law_860 rfl (lv_at hl 1 rfl) ?_
  refine lv_aload_n hx hb dL_law_861 rfl (lv_at hl 3 rfl) ?_
  refine lv_iload_n hx hb dL_law_862 rfl (lv_at hl 0 rfl) ?_
  refine lv_iconst (v := 1) hx hb dL_law_863 (by decide) ?_
  refine lv_iadd hx hb dL_law_864 ?_
  refine lv_topi (fun x_8 ex_8 => ?_)
  obtain rfl : x_8 = 1 := ex_8.trans (by decide +kernel)
  refine va_sld hx hb hX hbl hbA hS (show vp_in 1 6 from (by unfold vp_in; decide)) dL_law_865 ?_
  refine lv_topi (fun x_9 ex_9 => ?_)
  obtain rfl : x_9 = xs 1 := ex_9.trans (congrArg xs (by decide))
  refine lv_aload_n hx hb dL_law_866 rfl (lv_at hl 3 rfl) ?_
  refine lv_iload_n hx hb dL_law_867 rfl (lv_at hl 0 rfl) ?_
  refine lv_iconst (v := 2) hx hb dL_law_868 (by decide) ?_
  refine lv_iadd hx hb dL_law_869 ?_
  refine lv_topi (fun x_10 ex_10 => ?_)
  obtain rfl : x_10 = 2 := ex_10.trans (by decide +kernel)
  refine va_sld hx hb hX hbl hbA hS (show vp_in 2 6 from (by unfold vp_in; decide)) dL_law_870 ?_
  refine lv_topi (fun x_11 ex_11 => ?_)
  obtain rfl : x_11 = xs 2 := ex_11.trans (congrArg xs (by decide))
  refine lv_aload_n hx hb dL_law_871 rfl (lv_at hl 3 rfl) ?_
  refine lv_iload_n hx hb dL_law_872 rfl (lv_at hl 0 rfl) ?_
  refine lv_iconst (v := 3) hx hb dL_law_873 (by decide) ?_
  refine lv_iadd hx hb dL_law_874 ?_
  refine lv_topi (fun x_12 ex_12 => ?_)
  obtain rfl : x_12 = 3 := ex_12.trans (by decide +kernel)
  refine va_sld hx hb hX hbl hbA hS (show vp_in 3 6 from (by unfold vp_in; decide)) dL_law_875 ?_
  refine lv_topi (fun x_13 ex_13 => ?_)
  obtain rfl : x_13 = xs 3 := ex_13.trans (congrArg xs (by decide))
  have hPc := hP.sub (ws' := [(mq, .inr (9, [.int 0, .ref m_width, .ref m_many, .ref m_cells, .ref m_moved, .ref m_tape, .int 0, .int 0, .int 0, .int 0, .int 0, .long 0, .int 0, .int 0, .int 0, .int (-1), .ref m_lines, .ref m_has, .ref m_person, .ref m_letter, .int 0, .ref m_isKept, .ref m_more, .int 0, .ref m_came, .ref m_answered, .ref m_left, .ref m_leftOn, .ref m_isBurnt, .ref m_heard, .ref m_waitsOn, .ref m_idleOn, .ref m_row, .int 0, .int 0, .long 0, .ref m_key, .int 0, .int 0, .int 0, .int 0, .int 0, .int 0, .int 0, .int 0, .ref m_coming, .int 0, .ref m_tried, .ref m_bestOrder, .int 0, .int 0, .ref m_before, .int 0, .ref m_open])), (m_lines, .inl (mk_lines, 5, .inl (fun _ => 0)))]) [0, 1] rfl
  have hDc := hD.sub (ws' := [(mq, .inr (9, [.int 0, .ref m_width, .ref m_many, .ref m_cells, .ref m_moved, .ref m_tape, .int 0, .int 0, .int 0, .int 0, .int 0, .long 0, .int 0, .int 0, .int 0, .int (-1), .ref m_lines, .ref m_has, .ref m_person, .ref m_letter, .int 0, .ref m_isKept, .ref m_more, .int 0, .ref m_came, .ref m_answered, .ref m_left, .ref m_leftOn, .ref m_isBurnt, .ref m_heard, .ref m_waitsOn, .ref m_idleOn, .ref m_row, .int 0, .int 0, .long 0, .ref m_key, .int 0, .int 0, .int 0, .int 0, .int 0, .int 0, .int 0, .int 0, .ref m_coming, .int 0, .ref m_tried, .ref m_bestOrder, .int 0, .int 0, .ref m_before, .int 0, .ref m_open])), (m_lines, .inl (mk_lines, 5, .inl (fun _ => 0)))]) [0, 1] (by decide) rfl
  have hKc := hK.sub (tys' := [(mk_lines, .int)]) [0] rfl
  have hFc := va_free (wc := [(mq, .inr (9, [.int 0, .ref m_width, .ref m_many, .ref m_cells, .ref m_moved, .ref m_tape, .int 0, .int 0, .int 0, .int 0, .int 0, .long 0, .int 0, .int 0, .int 0, .int (-1), .ref m_lines, .ref m_has, .ref m_person, .ref m_letter, .int 0, .ref m_isKept, .ref m_more, .int 0, .ref m_came, .ref m_answered, .ref m_left, .ref m_leftOn, .ref m_isBurnt, .ref m_heard, .ref m_waitsOn, .ref m_idleOn, .ref m_row, .int 0, .int 0, .long 0, .ref m_key, .int 0, .int 0, .int 0, .int 0, .int 0, .int 0, .int 0, .int 0, .ref m_coming, .int 0, .ref m_tried, .ref m_bestOrder, .int 0, .int 0, .ref m_before, .int 0, .ref m_open])), (m_lines, .inl (mk_lines, 5, .inl (fun _ => 0)))]) hD hS hA [0, 1] rfl
  refine va_calli (va_runV (As := [.int (xs 1), .int (xs 2), .int (xs 3)]) (rest := [.int (-2)]) ⟨hx, hb, hml, hown, hts⟩ (mc_by l dC dI H.size mq m_width m_many m_cells m_moved m_tape m_lines m_has m_person m_letter m_isKept m_more m_came m_answered m_left m_leftOn m_isBurnt m_heard m_waitsOn m_idleOn m_row m_key m_coming m_tried m_bestOrder m_before m_open mk_lines ((xs 1)) ((xs 2)) ((xs 3)) ) (cwV 3 hts (goodV w_1043 w_1044 w_1045 w_5 w_1046) rfl rfl rfl hdV_X9_by ⟨Nat.le_of_ble_eq_true rfl, Nat.le_of_ble_eq_true rfl⟩) ⟨fun a U g mk q => by obtain ⟨q0, q1, qP, qK, qD⟩ := q; exact ⟨q0, q1, qP, va_K.moved (u := U) (U := U.calling g mk a) (Vm.Alike.refl U.vm) qK, qD⟩, va_recv hKc hPc (ci := 9) (q0 := 0) rfl rfl, fun U hU hW => ⟨rfl, by rw [hU], by rw [hU]; exact hPc, va_K.moved hW.alike hKc, hDc.weaken (fun _ _ _ _ => trivial)⟩⟩ rfl rfl hl.1 rfl (lv_room (Nat.le_of_ble_eq_true rfl)) dL_law_876 ⟨Nat.le_of_ble_eq_true rfl, Nat.le_of_ble_eq_true rfl⟩) hS (fun q _ h => hFc q h) hFc (fun r_14 u t H1 locs ht hvm hw hB hz1 hk1 hS => ?_)
  obtain ⟨hP, hD⟩ := va_join (wr := []) (w1 := []) hP hD [0, 1] [] rfl rfl (by decide) (by decide) hk1 hFc nilP nilD
  clear hPc hDc hKc hFc
  generalize H1 = H at hP hS ⊢
  have hP : va_P (dC, dI) vwCl [] H := hP
  have hD : va_D (fun q : Nat => s.heap.size ≤ q) [] := hD
  have hw : r_14 = (-2) := hw
  subst hw
  refine lv_icmp_eq (tgt := 1677) hx hb dL_law_879 (by decide) (fun c_15 => ?_) (fun c_15 => absurd (by decide) c_15)
  exact law_tail C0 hS (lv_sub hl [0, 3] rfl)

set_option maxHeartbeats 4000000 in
set_option maxRecDepth 100000 in
theorem law_best {p : Program} {l : Launch} {e : Env} {s : State} {m : MethodId} {below : List Frame} {meth : Method} {c : Code} {dC : Nat → ClassId} {dI : Nat → Nat → Nat} {b : Nat} {xs : Nat → Int32} {H : Heap} {locs : List Loc} {ls : Array Slot} {x_tape : Nat} {x_reader : Nat} {x_current : Nat} {x_images : Nat} {x_kept : Nat} {x_slots : Nat} {x_diary : Nat} {x_base : Nat} {x_trial : Nat} {x_plan : Nat} {x_orders : Nat} {x_unanswered : Nat} {t0 : Nat} {t1 : Nat} {t2 : Nat} {t3 : Nat} {t4 : Nat} {t5 : Nat} {t6 : Nat} {t7 : Nat} {t8 : Nat} {t9 : Nat} {m_width : Nat} {m_many : Nat} {m_cells : Nat} {m_moved : Nat} {m_tape : Nat} {m_lines : Nat} {m_has : Nat} {m_person : Nat} {m_letter : Nat} {m_isKept : Nat} {m_more : Nat} {m_came : Nat} {m_answered : Nat} {m_left : Nat} {m_leftOn : Nat} {m_isBurnt : Nat} {m_heard : Nat} {m_waitsOn : Nat} {m_idleOn : Nat} {m_row : Nat} {m_key : Nat} {m_coming : Nat} {m_tried : Nat} {m_bestOrder : Nat} {m_before : Nat} {m_open : Nat} {mk_lines : ClassId} {xq : Nat} {mq : Nat} (C0 : lw_At p s m meth c b 6 xs)  (hK : va_K (dC, dI) vwCl [(mk_lines, .int)] s) (hP : va_P (dC, dI) vwCl [(xq, .inr (8, [.ref x_tape, .ref x_reader, .ref x_current, .ref x_images, .ref x_kept, .ref x_slots, .ref x_diary, .ref x_base, .ref x_trial, .ref x_plan, .ref x_orders, .ref x_unanswered, .int 0, .int 0, .int (-1)])), (x_current, .inr (7, [.int 0, .int 0, .int 0, .int 0, .int 0, .int 0, .int 0, .int 0, .ref t0, .ref t1, .ref t2, .ref t3, .ref t4, .ref t5, .ref t6, .ref t7, .ref t8, .ref t9])), (mq, .inr (9, [.int 0, .ref m_width, .ref m_many, .ref m_cells, .ref m_moved, .ref m_tape, .int 0, .int 0, .int 0, .int 0, .int 0, .long 0, .int 0, .int 0, .int 0, .int (-1), .ref m_lines, .ref m_has, .ref m_person, .ref m_letter, .int 0, .ref m_isKept, .ref m_more, .int 0, .ref m_came, .ref m_answered, .ref m_left, .ref m_leftOn, .ref m_isBurnt, .ref m_heard, .ref m_waitsOn, .ref m_idleOn, .ref m_row, .int 0, .int 0, .long 0, .ref m_key, .int 0, .int 0, .int 0, .int 0, .int 0, .int 0, .int 0, .int 0, .ref m_coming, .int 0, .ref m_tried, .ref m_bestOrder, .int 0, .int 0, .ref m_before, .int 0, .ref m_open])), (m_lines, .inl (mk_lines, 5, .inl (fun _ => 0)))] H) (hD : va_D (fun q : Nat => s.heap.size ≤ q) [(xq, .inr (8, [.ref x_tape, .ref x_reader, .ref x_current, .ref x_images, .ref x_kept, .ref x_slots, .ref x_diary, .ref x_base, .ref x_trial, .ref x_plan, .ref x_orders, .ref x_unanswered, .int 0, .int 0, .int (-1)])), (x_current, .inr (7, [.int 0, .int 0, .int 0, .int 0, .int 0, .int 0, .int 0, .int 0, .ref t0, .ref t1, .ref t2, .ref t3, .ref t4, .ref t5, .ref t6, .ref t7, .ref t8, .ref t9])), (mq, .inr (9, [.int 0, .ref m_width, .ref m_many, .ref m_cells, .ref m_moved, .ref m_tape, .int 0, .int 0, .int 0, .int 0, .int 0, .long 0, .int 0, .int 0, .int 0, .int (-1), .ref m_lines, .ref m_has, .ref m_person, .ref m_letter, .int 0, .ref m_isKept, .ref m_more, .int 0, .ref m_came, .ref m_answered, .ref m_left, .ref m_leftOn, .ref m_isBurnt, .ref m_heard, .ref m_waitsOn, .ref m_idleOn, .ref m_row, .int 0, .int 0, .long 0, .ref m_key, .int 0, .int 0, .int 0, .int 0, .int 0, .int 0, .int 0, .int 0, .ref m_coming, .int 0, .ref m_tried, .ref m_bestOrder, .int 0, .int 0, .ref m_before, .int 0, .ref m_open])), (m_lines, .inl (mk_lines, 5, .inl (fun _ => 0)))]) (hS : va_S (fun q : Nat => s.heap.size ≤ q) s.heap H locs) (hl : lv_has ls 4 [(3, .int 0), (2, .ref mq), (1, .ref xq), (0, .ref b)]) : W p l e room_1 s m #[Value.ref b] below meth c H locs 144 16687 (lw_Z below #[Value.ref b] s) (F0 m 884 ls []) := by
  obtain ⟨hx, hb, hr, hml, hown, hts0, hX, hbl, hlocks, hgv⟩ := id C0
  have hts : ∀ w ∈ ALLW, w.before #[Value.ref b] s = true := fun w h => hts0 w (inT w h)
  have hA : ∀ q : Nat, s.heap.size ≤ q → (fun q : Nat => s.heap.size ≤ q) q := fun _ h => h
  have hbA : ¬ (fun q : Nat => s.heap.size ≤ q) b := Nat.not_le.mpr hbl
  refine lv_aload_n hx hb dL_law_884 rfl (lv_at hl 2 rfl) ?_
  have hPc := hP.sub (ws' := [(xq, .inr (8, [.ref x_tape, .ref x_reader, .ref x_current, .ref x_images, .ref x_kept, .ref x_slots, .ref x_diary, .ref x_base, .ref x_trial, .ref x_plan, .ref x_orders, .ref x_unanswered, .int 0, .int 0, .int (-1)])), (x_current, .inr (7, [.int 0, .int 0, .int 0, .int 0, .int 0, .int 0, .int 0, .int 0, .ref t0, .ref t1, .ref t2, .ref t3, .ref t4, .ref t5, .ref t6, .ref t7, .ref t8, .ref t9]))]) [0, 1] rfl
  have hDc := hD.sub (ws' := [(xq, .inr (8, [.ref x_tape, .ref x_reader, .ref x_current, .ref x_images, .ref x_kept, .ref x_slots, .ref x_diary, .ref x_base, .ref x_trial, .ref x_plan, .ref x_orders, .ref x_unanswered, .int 0, .int 0, .int (-1)])), (x_current, .inr (7, [.int 0, .int 0, .int 0, .int 0, .int 0, .int 0, .int 0, .int 0, .ref t0, .ref t1, .ref t2, .ref t3, .ref t4, .ref t5, .ref t6, .ref t7, .ref t8, .ref t9]))]) [0, 1] (by decide) rfl
  have hKc := hK.sub (tys' := []) [] rfl
  have hFc := va_free (wc := [(xq, .inr (8, [.ref x_tape, .ref x_reader, .ref x_current, .ref x_images, .ref x_kept, .ref x_slots, .ref x_diary, .ref x_base, .ref x_trial, .ref x_plan, .ref x_orders, .ref x_unanswered, .int 0, .int 0, .int (-1)])), (x_current, .inr (7, [.int 0, .int 0, .int 0, .int 0, .int 0, .int 0, .int 0, .int 0, .ref t0, .ref t1, .ref t2, .ref t3, .ref t4, .ref t5, .ref t6, .ref t7, .ref t8, .ref t9]))]) hD hS hA [0, 1] rfl
  refine va_calli (va_runV (As := []) (rest := []) ⟨hx, hb, hml, hown, hts⟩ (x_best l dC dI H.size xq x_tape x_reader x_current x_images x_kept x_slots x_diary x_base x_trial x_plan x_orders x_unanswered t0 t1 t2 t3 t4 t5 t6 t7 t8 t9 ) (cwV 0 hts (goodV w_1055 w_1056 w_1057 w_2 w_1058) rfl rfl rfl hdV_X8_best ⟨Nat.le_of_ble_eq_true rfl, Nat.le_of_ble_eq_true rfl⟩) ⟨fun a U g mk q => by obtain ⟨q0, q1, qP, qK, qD⟩ := q; exact ⟨q0, q1, qP, va_K.moved (u := U) (U := U.calling g mk a) (Vm.Alike.refl U.vm) qK, qD⟩, va_recv hKc hPc (ci := 8) (q0 := 0) rfl rfl, fun U hU hW => ⟨rfl, by rw [hU], by rw [hU]; exact hPc, va_K.moved hW.alike hKc, hDc.weaken (fun _ _ _ _ => trivial)⟩⟩ rfl rfl hl.1 rfl (lv_room (Nat.le_of_ble_eq_true rfl)) dL_law_885 ⟨Nat.le_of_ble_eq_true rfl, Nat.le_of_ble_eq_true rfl⟩) hS (fun q _ h => hFc q h) hFc (fun r_1 u t H1 locs ht hvm hw hB hz1 hk1 hS => ?_)
  obtain ⟨hP, hD⟩ := va_join (wr := [(mq, .inr (9, [.int 0, .ref m_width, .ref m_many, .ref m_cells, .ref m_moved, .ref m_tape, .int 0, .int 0, .int 0, .int 0, .int 0, .long 0, .int 0, .int 0, .int 0, .int (-1), .ref m_lines, .ref m_has, .ref m_person, .ref m_letter, .int 0, .ref m_isKept, .ref m_more, .int 0, .ref m_came, .ref m_answered, .ref m_left, .ref m_leftOn, .ref m_isBurnt, .ref m_heard, .ref m_waitsOn, .ref m_idleOn, .ref m_row, .int 0, .int 0, .long 0, .ref m_key, .int 0, .int 0, .int 0, .int 0, .int 0, .int 0, .int 0, .int 0, .ref m_coming, .int 0, .ref m_tried, .ref m_bestOrder, .int 0, .int 0, .ref m_before, .int 0, .ref m_open])), (m_lines, .inl (mk_lines, 5, .inl (fun _ => 0)))]) (w1 := []) hP hD [0, 1] [2, 3] rfl rfl (by decide) (by decide) hk1 hFc nilP nilD
  clear hPc hDc hKc hFc
  generalize H1 = H at hP hS ⊢
  have hP : va_P (dC, dI) vwCl [(mq, .inr (9, [.int 0, .ref m_width, .ref m_many, .ref m_cells, .ref m_moved, .ref m_tape, .int 0, .int 0, .int 0, .int 0, .int 0, .long 0, .int 0, .int 0, .int 0, .int (-1), .ref m_lines, .ref m_has, .ref m_person, .ref m_letter, .int 0, .ref m_isKept, .ref m_more, .int 0, .ref m_came, .ref m_answered, .ref m_left, .ref m_leftOn, .ref m_isBurnt, .ref m_heard, .ref m_waitsOn, .ref m_idleOn, .ref m_row, .int 0, .int 0, .long 0, .ref m_key, .int 0, .int 0, .int 0, .int 0, .int 0, .int 0, .int 0, .int 0, .ref m_coming, .int 0, .ref m_tried, .ref m_bestOrder, .int 0, .int 0, .ref m_before, .int 0, .ref m_open])), (m_lines, .inl (mk_lines, 5, .inl (fun _ => 0)))] H := hP
  have hD : va_D (fun q : Nat => s.heap.size ≤ q) [(mq, .inr (9, [.int 0, .ref m_width, .ref m_many, .ref m_cells, .ref m_moved, .ref m_tape, .int 0, .int 0, .int 0, .int 0, .int 0, .long 0, .int 0, .int 0, .int 0, .int (-1), .ref m_lines, .ref m_has, .ref m_person, .ref m_letter, .int 0, .ref m_isKept, .ref m_more, .int 0, .ref m_came, .ref m_answered, .ref m_left, .ref m_leftOn, .ref m_isBurnt, .ref m_heard, .ref m_waitsOn, .ref m_idleOn, .ref m_row, .int 0, .int 0, .long 0, .ref m_key, .int 0, .int 0, .int 0, .int 0, .int 0, .int 0, .int 0, .int 0, .ref m_coming, .int 0, .ref m_tried, .ref m_bestOrder, .int 0, .int 0, .ref m_before, .int 0, .ref m_open])), (m_lines, .inl (mk_lines, 5, .inl (fun _ => 0)))] := hD
  have hw : r_1 = (-2) := hw
  subst hw
  refine lv_aload_n hx hb dL_law_888 rfl (lv_at hl 1 rfl) ?_
  have hPc := hP.sub (ws' := [(mq, .inr (9, [.int 0, .ref m_width, .ref m_many, .ref m_cells, .ref m_moved, .ref m_tape, .int 0, .int 0, .int 0, .int 0, .int 0, .long 0, .int 0, .int 0, .int 0, .int (-1), .ref m_lines, .ref m_has, .ref m_person, .ref m_letter, .int 0, .ref m_isKept, .ref m_more, .int 0, .ref m_came, .ref m_answered, .ref m_left, .ref m_leftOn, .ref m_isBurnt, .ref m_heard, .ref m_waitsOn, .ref m_idleOn, .ref m_row, .int 0, .int 0, .long 0, .ref m_key, .int 0, .int 0, .int 0, .int 0, .int 0, .int 0, .int 0, .int 0, .ref m_coming, .int 0, .ref m_tried, .ref m_bestOrder, .int 0, .int 0, .ref m_before, .int 0, .ref m_open])), (m_lines, .inl (mk_lines, 5, .inl (fun _ => 0)))]) [0, 1] rfl
  have hDc := hD.sub (ws' := [(mq, .inr (9, [.int 0, .ref m_width, .ref m_many, .ref m_cells, .ref m_moved, .ref m_tape, .int 0, .int 0, .int 0, .int 0, .int 0, .long 0, .int 0, .int 0, .int 0, .int (-1), .ref m_lines, .ref m_has, .ref m_person, .ref m_letter, .int 0, .ref m_isKept, .ref m_more, .int 0, .ref m_came, .ref m_answered, .ref m_left, .ref m_leftOn, .ref m_isBurnt, .ref m_heard, .ref m_waitsOn, .ref m_idleOn, .ref m_row, .int 0, .int 0, .long 0, .ref m_key, .int 0, .int 0, .int 0, .int 0, .int 0, .int 0, .int 0, .int 0, .ref m_coming, .int 0, .ref m_tried, .ref m_bestOrder, .int 0, .int 0, .ref m_before, .int 0, .ref m_open])), (m_lines, .inl (mk_lines, 5, .inl (fun _ => 0)))]) [0, 1] (by decide) rfl
  have hKc := hK.sub (tys' := [(mk_lines, .int)]) [0] rfl
  have hFc := va_free (wc := [(mq, .inr (9, [.int 0, .ref m_width, .ref m_many, .ref m_cells, .ref m_moved, .ref m_tape, .int 0, .int 0, .int 0, .int 0, .int 0, .long 0, .int 0, .int 0, .int 0, .int (-1), .ref m_lines, .ref m_has, .ref m_person, .ref m_letter, .int 0, .ref m_isKept, .ref m_more, .int 0, .ref m_came, .ref m_answered, .ref m_left, .ref m_leftOn, .ref m_isBurnt, .ref m_heard, .ref m_waitsOn, .ref m_idleOn, .ref m_row, .int 0, .int 0, .long 0, .ref m_key, .int 0, .int 0, .int 0, .int 0, .int 0, .int 0, .int 0, .int 0, .ref m_coming, .int 0, .ref m_tried, .ref m_bestOrder, .int 0, .int 0, .ref m_before, .int 0, .ref m_open])), (m_lines, .inl (mk_lines, 5, .inl (fun _ => 0)))]) hD hS hA [0, 1] rfl
  refine va_calli (va_runV (As := []) (rest := [.int (-2)]) ⟨hx, hb, hml, hown, hts⟩ (mc_best l dC dI H.size mq m_width m_many m_cells m_moved m_tape m_lines m_has m_person m_letter m_isKept m_more m_came m_answered m_left m_leftOn m_isBurnt m_heard m_waitsOn m_idleOn m_row m_key m_coming m_tried m_bestOrder m_before m_open mk_lines ) (cwV 0 hts (goodV w_1059 w_1060 w_1061 w_5 w_1062) rfl rfl rfl hdV_X9_best ⟨Nat.le_of_ble_eq_true rfl, Nat.le_of_ble_eq_true rfl⟩) ⟨fun a U g mk q => by obtain ⟨q0, q1, qP, qK, qD⟩ := q; exact ⟨q0, q1, qP, va_K.moved (u := U) (U := U.calling g mk a) (Vm.Alike.refl U.vm) qK, qD⟩, va_recv hKc hPc (ci := 9) (q0 := 0) rfl rfl, fun U hU hW => ⟨rfl, by rw [hU], by rw [hU]; exact hPc, va_K.moved hW.alike hKc, hDc.weaken (fun _ _ _ _ => trivial)⟩⟩ rfl rfl hl.1 rfl (lv_room (Nat.le_of_ble_eq_true rfl)) dL_law_889 ⟨Nat.le_of_ble_eq_true rfl, Nat.le_of_ble_eq_true rfl⟩) hS (fun q _ h => hFc q h) hFc (fun r_2 u t H1 locs ht hvm hw hB hz1 hk1 hS => ?_)
  obtain ⟨hP, hD⟩ := va_join (wr := []) (w1 := []) hP hD [0, 1] [] rfl rfl (by decide) (by decide) hk1 hFc nilP nilD
  clear hPc hDc hKc hFc
  generalize H1 = H at hP hS ⊢
  have hP : va_P (dC, dI) vwCl [] H := hP
  have hD : va_D (fun q : Nat => s.heap.size ≤ q) [] := hD
  have hw : r_2 = (-2) := hw
  subst hw
  refine lv_icmp_eq (tgt := 1677) hx hb dL_law_892 (by decide) (fun c_3 => ?_) (fun c_3 => absurd (by decide) c_3)
  exact law_tail C0 hS (lv_sub hl [0, 3] rfl)

set_option maxHeartbeats 4000000 in
set_option maxRecDepth 100000 in
theorem law_order {p : Program} {l : Launch} {e : Env} {s : State} {m : MethodId} {below : List Frame} {meth : Method} {c : Code} {dC : Nat → ClassId} {dI : Nat → Nat → Nat} {b : Nat} {xs : Nat → Int32} {H : Heap} {locs : List Loc} {ls : Array Slot} {x_tape : Nat} {x_reader : Nat} {x_current : Nat} {x_images : Nat} {x_kept : Nat} {x_slots : Nat} {x_diary : Nat} {x_base : Nat} {x_trial : Nat} {x_plan : Nat} {x_orders : Nat} {x_unanswered : Nat} {t0 : Nat} {t1 : Nat} {t2 : Nat} {t3 : Nat} {t4 : Nat} {t5 : Nat} {t6 : Nat} {t7 : Nat} {t8 : Nat} {t9 : Nat} {m_width : Nat} {m_many : Nat} {m_cells : Nat} {m_moved : Nat} {m_tape : Nat} {m_lines : Nat} {m_has : Nat} {m_person : Nat} {m_letter : Nat} {m_isKept : Nat} {m_more : Nat} {m_came : Nat} {m_answered : Nat} {m_left : Nat} {m_leftOn : Nat} {m_isBurnt : Nat} {m_heard : Nat} {m_waitsOn : Nat} {m_idleOn : Nat} {m_row : Nat} {m_key : Nat} {m_coming : Nat} {m_tried : Nat} {m_bestOrder : Nat} {m_before : Nat} {m_open : Nat} {mk_has : ClassId} {xq : Nat} {mq : Nat} (C0 : lw_At p s m meth c b 6 xs)  (hK : va_K (dC, dI) vwCl [(mk_has, .int)] s) (hP : va_P (dC, dI) vwCl [(xq, .inr (8, [.ref x_tape, .ref x_reader, .ref x_current, .ref x_images, .ref x_kept, .ref x_slots, .ref x_diary, .ref x_base, .ref x_trial, .ref x_plan, .ref x_orders, .ref x_unanswered, .int 0, .int 0, .int (-1)])), (x_current, .inr (7, [.int 0, .int 0, .int 0, .int 0, .int 0, .int 0, .int 0, .int 0, .ref t0, .ref t1, .ref t2, .ref t3, .ref t4, .ref t5, .ref t6, .ref t7, .ref t8, .ref t9])), (mq, .inr (9, [.int 0, .ref m_width, .ref m_many, .ref m_cells, .ref m_moved, .ref m_tape, .int 0, .int 0, .int 0, .int 0, .int 0, .long 0, .int 0, .int 0, .int 0, .int (-1), .ref m_lines, .ref m_has, .ref m_person, .ref m_letter, .int 0, .ref m_isKept, .ref m_more, .int 0, .ref m_came, .ref m_answered, .ref m_left, .ref m_leftOn, .ref m_isBurnt, .ref m_heard, .ref m_waitsOn, .ref m_idleOn, .ref m_row, .int 0, .int 0, .long 0, .ref m_key, .int 0, .int 0, .int 0, .int 0, .int 0, .int 0, .int 0, .int 0, .ref m_coming, .int 0, .ref m_tried, .ref m_bestOrder, .int 0, .int 0, .ref m_before, .int 0, .ref m_open])), (m_has, .inl (mk_has, 30, .inl (fun _ => 0)))] H) (hD : va_D (fun q : Nat => s.heap.size ≤ q) [(xq, .inr (8, [.ref x_tape, .ref x_reader, .ref x_current, .ref x_images, .ref x_kept, .ref x_slots, .ref x_diary, .ref x_base, .ref x_trial, .ref x_plan, .ref x_orders, .ref x_unanswered, .int 0, .int 0, .int (-1)])), (x_current, .inr (7, [.int 0, .int 0, .int 0, .int 0, .int 0, .int 0, .int 0, .int 0, .ref t0, .ref t1, .ref t2, .ref t3, .ref t4, .ref t5, .ref t6, .ref t7, .ref t8, .ref t9])), (mq, .inr (9, [.int 0, .ref m_width, .ref m_many, .ref m_cells, .ref m_moved, .ref m_tape, .int 0, .int 0, .int 0, .int 0, .int 0, .long 0, .int 0, .int 0, .int 0, .int (-1), .ref m_lines, .ref m_has, .ref m_person, .ref m_letter, .int 0, .ref m_isKept, .ref m_more, .int 0, .ref m_came, .ref m_answered, .ref m_left, .ref m_leftOn, .ref m_isBurnt, .ref m_heard, .ref m_waitsOn, .ref m_idleOn, .ref m_row, .int 0, .int 0, .long 0, .ref m_key, .int 0, .int 0, .int 0, .int 0, .int 0, .int 0, .int 0, .int 0, .ref m_coming, .int 0, .ref m_tried, .ref m_bestOrder, .int 0, .int 0, .ref m_before, .int 0, .ref m_open])), (m_has, .inl (mk_has, 30, .inl (fun _ => 0)))]) (hS : va_S (fun q : Nat => s.heap.size ≤ q) s.heap H locs) (hl : lv_has ls 4 [(3, .int 0), (2, .ref mq), (1, .ref xq), (0, .ref b)]) : W p l e room_1 s m #[Value.ref b] below meth c H locs 144 16687 (lw_Z below #[Value.ref b] s) (F0 m 897 ls []) := by
  obtain ⟨hx, hb, hr, hml, hown, hts0, hX, hbl, hlocks, hgv⟩ := id C0
  have hts : ∀ w ∈ ALLW, w.before #[Value.ref b] s = true := fun w h => hts0 w (inT w h)
  have hA : ∀ q : Nat, s.heap.size ≤ q → (fun q : Nat => s.heap.size ≤ q) q := fun _ h => h
  have hbA : ¬ (fun q : Nat => s.heap.size ≤ q) b := Nat.not_le.mpr hbl
  refine lv_aload_n hx hb dL_law_897 rfl (lv_at hl 2 rfl) ?_
  refine lv_aload_n hx hb dL_law_898 rfl (lv_at hl 3 rfl) ?_
  refine lv_iload_n hx hb dL_law_899 rfl (lv_at hl 0 rfl) ?_
  refine lv_iconst (v := 1) hx hb dL_law_900 (by decide) ?_
  refine lv_iadd hx hb dL_law_901 ?_
  refine lv_topi (fun x_1 ex_1 => ?_)
  obtain rfl : x_1 = 1 := ex_1.trans (by decide +kernel)
  refine va_sld hx hb hX hbl hbA hS (show vp_in 1 6 from (by unfold vp_in; decide)) dL_law_902 ?_
  refine lv_topi (fun x_2 ex_2 => ?_)
  obtain rfl : x_2 = xs 1 := ex_2.trans (congrArg xs (by decide))
  refine lv_aload_n hx hb dL_law_903 rfl (lv_at hl 3 rfl) ?_
  refine lv_iload_n hx hb dL_law_904 rfl (lv_at hl 0 rfl) ?_
  refine lv_iconst (v := 2) hx hb dL_law_905 (by decide) ?_
  refine lv_iadd hx hb dL_law_906 ?_
  refine lv_topi (fun x_3 ex_3 => ?_)
  obtain rfl : x_3 = 2 := ex_3.trans (by decide +kernel)
  refine va_sld hx hb hX hbl hbA hS (show vp_in 2 6 from (by unfold vp_in; decide)) dL_law_907 ?_
  refine lv_topi (fun x_4 ex_4 => ?_)
  obtain rfl : x_4 = xs 2 := ex_4.trans (congrArg xs (by decide))
  have hPc := hP.sub (ws' := [(xq, .inr (8, [.ref x_tape, .ref x_reader, .ref x_current, .ref x_images, .ref x_kept, .ref x_slots, .ref x_diary, .ref x_base, .ref x_trial, .ref x_plan, .ref x_orders, .ref x_unanswered, .int 0, .int 0, .int (-1)])), (x_current, .inr (7, [.int 0, .int 0, .int 0, .int 0, .int 0, .int 0, .int 0, .int 0, .ref t0, .ref t1, .ref t2, .ref t3, .ref t4, .ref t5, .ref t6, .ref t7, .ref t8, .ref t9]))]) [0, 1] rfl
  have hDc := hD.sub (ws' := [(xq, .inr (8, [.ref x_tape, .ref x_reader, .ref x_current, .ref x_images, .ref x_kept, .ref x_slots, .ref x_diary, .ref x_base, .ref x_trial, .ref x_plan, .ref x_orders, .ref x_unanswered, .int 0, .int 0, .int (-1)])), (x_current, .inr (7, [.int 0, .int 0, .int 0, .int 0, .int 0, .int 0, .int 0, .int 0, .ref t0, .ref t1, .ref t2, .ref t3, .ref t4, .ref t5, .ref t6, .ref t7, .ref t8, .ref t9]))]) [0, 1] (by decide) rfl
  have hKc := hK.sub (tys' := []) [] rfl
  have hFc := va_free (wc := [(xq, .inr (8, [.ref x_tape, .ref x_reader, .ref x_current, .ref x_images, .ref x_kept, .ref x_slots, .ref x_diary, .ref x_base, .ref x_trial, .ref x_plan, .ref x_orders, .ref x_unanswered, .int 0, .int 0, .int (-1)])), (x_current, .inr (7, [.int 0, .int 0, .int 0, .int 0, .int 0, .int 0, .int 0, .int 0, .ref t0, .ref t1, .ref t2, .ref t3, .ref t4, .ref t5, .ref t6, .ref t7, .ref t8, .ref t9]))]) hD hS hA [0, 1] rfl
  refine va_calli (va_runV (As := [.int (xs 1), .int (xs 2)]) (rest := []) ⟨hx, hb, hml, hown, hts⟩ (x_order l dC dI H.size xq x_tape x_reader x_current x_images x_kept x_slots x_diary x_base x_trial x_plan x_orders x_unanswered t0 t1 t2 t3 t4 t5 t6 t7 t8 t9 ((xs 1)) ((xs 2)) ) (cwV 2 hts (goodV w_1063 w_1064 w_1065 w_2 w_1066) rfl rfl rfl hdV_X8_order ⟨Nat.le_of_ble_eq_true rfl, Nat.le_of_ble_eq_true rfl⟩) ⟨fun a U g mk q => by obtain ⟨q0, q1, qP, qK, qD⟩ := q; exact ⟨q0, q1, qP, va_K.moved (u := U) (U := U.calling g mk a) (Vm.Alike.refl U.vm) qK, qD⟩, va_recv hKc hPc (ci := 8) (q0 := 0) rfl rfl, fun U hU hW => ⟨rfl, by rw [hU], by rw [hU]; exact hPc, va_K.moved hW.alike hKc, hDc.weaken (fun _ _ _ _ => trivial)⟩⟩ rfl rfl hl.1 rfl (lv_room (Nat.le_of_ble_eq_true rfl)) dL_law_908 ⟨Nat.le_of_ble_eq_true rfl, Nat.le_of_ble_eq_true rfl⟩) hS (fun q _ h => hFc q h) hFc (fun r_5 u t H1 locs ht hvm hw hB hz1 hk1 hS => ?_)
  obtain ⟨hP, hD⟩ := va_join (wr := [(mq, .inr (9, [.int 0, .ref m_width, .ref m_many, .ref m_cells, .ref m_moved, .ref m_tape, .int 0, .int 0, .int 0, .int 0, .int 0, .long 0, .int 0, .int 0, .int 0, .int (-1), .ref m_lines, .ref m_has, .ref m_person, .ref m_letter, .int 0, .ref m_isKept, .ref m_more, .int 0, .ref m_came, .ref m_answered, .ref m_left, .ref m_leftOn, .ref m_isBurnt, .ref m_heard, .ref m_waitsOn, .ref m_idleOn, .ref m_row, .int 0, .int 0, .long 0, .ref m_key, .int 0, .int 0, .int 0, .int 0, .int 0, .int 0, .int 0, .int 0, .ref m_coming, .int 0, .ref m_tried, .ref m_bestOrder, .int 0, .int 0, .ref m_before, .int 0, .ref m_open])), (m_has, .inl (mk_has, 30, .inl (fun _ => 0)))]) (w1 := []) hP hD [0, 1] [2, 3] rfl rfl (by decide) (by decide) hk1 hFc nilP nilD
  clear hPc hDc hKc hFc
  generalize H1 = H at hP hS ⊢
  have hP : va_P (dC, dI) vwCl [(mq, .inr (9, [.int 0, .ref m_width, .ref m_many, .ref m_cells, .ref m_moved, .ref m_tape, .int 0, .int 0, .int 0, .int 0, .int 0, .long 0, .int 0, .int 0, .int 0, .int (-1), .ref m_lines, .ref m_has, .ref m_person, .ref m_letter, .int 0, .ref m_isKept, .ref m_more, .int 0, .ref m_came, .ref m_answered, .ref m_left, .ref m_leftOn, .ref m_isBurnt, .ref m_heard, .ref m_waitsOn, .ref m_idleOn, .ref m_row, .int 0, .int 0, .long 0, .ref m_key, .int 0, .int 0, .int 0, .int 0, .int 0, .int 0, .int 0, .int 0, .ref m_coming, .int 0, .ref m_tried, .ref m_bestOrder, .int 0, .int 0, .ref m_before, .int 0, .ref m_open])), (m_has, .inl (mk_has, 30, .inl (fun _ => 0)))] H := hP
  have hD : va_D (fun q : Nat => s.heap.size ≤ q) [(mq, .inr (9, [.int 0, .ref m_width, .ref m_many, .ref m_cells, .ref m_moved, .ref m_tape, .int 0, .int 0, .int 0, .int 0, .int 0, .long 0, .int 0, .int 0, .int 0, .int (-1), .ref m_lines, .ref m_has, .ref m_person, .ref m_letter, .int 0, .ref m_isKept, .ref m_more, .int 0, .ref m_came, .ref m_answered, .ref m_left, .ref m_leftOn, .ref m_isBurnt, .ref m_heard, .ref m_waitsOn, .ref m_idleOn, .ref m_row, .int 0, .int 0, .long 0, .ref m_key, .int 0, .int 0, .int 0, .int 0, .int 0, .int 0, .int 0, .int 0, .ref m_coming, .int 0, .ref m_tried, .ref m_bestOrder, .int 0, .int 0, .ref m_before, .int 0, .ref m_open])), (m_has, .inl (mk_has, 30, .inl (fun _ => 0)))] := hD
  have hw : r_5 = (-2) := hw
  subst hw
  refine lv_aload_n hx hb dL_law_911 rfl (lv_at hl 1 rfl) ?_
  refine lv_aload_n hx hb dL_law_912 rfl (lv_at hl 3 rfl) ?_
  refine lv_iload_n hx hb dL_law_913 rfl (lv_at hl 0 rfl) ?_
  refine lv_iconst (v := 1) hx hb dL_law_914 (by decide) ?_
  refine lv_iadd hx hb dL_law_915 ?_
  refine lv_topi (fun x_6 ex_6 => ?_)
  obtain rfl : x_6 = 1 := ex_6.trans (by decide +kernel)
  refine va_sld hx hb hX hbl hbA hS (show vp_in 1 6 from (by unfold vp_in; decide)) dL_law_916 ?_
  refine lv_topi (fun x_7 ex_7 => ?_)
  obtain rfl : x_7 = xs 1 := ex_7.trans (congrArg xs (by decide))
  refine lv_aload_n hx hb dL_law_917 rfl (lv_at hl 3 rfl) ?_
  refine lv_iload_n hx hb dL_law_918 rfl (lv_at hl 0 rfl) ?_
  refine lv_iconst (v := 2) hx hb dL_law_919 (by decide) ?_
  refine lv_iadd hx hb dL_law_920 ?_
  refine lv_topi (fun x_8 ex_8 => ?_)
  obtain rfl : x_8 = 2 := ex_8.trans (by decide +kernel)
  refine va_sld hx hb hX hbl hbA hS (show vp_in 2 6 from (by unfold vp_in; decide)) dL_law_921 ?_
  refine lv_topi (fun x_9 ex_9 => ?_)
  obtain rfl : x_9 = xs 2 := ex_9.trans (congrArg xs (by decide))
  have hPc := hP.sub (ws' := [(mq, .inr (9, [.int 0, .ref m_width, .ref m_many, .ref m_cells, .ref m_moved, .ref m_tape, .int 0, .int 0, .int 0, .int 0, .int 0, .long 0, .int 0, .int 0, .int 0, .int (-1), .ref m_lines, .ref m_has, .ref m_person, .ref m_letter, .int 0, .ref m_isKept, .ref m_more, .int 0, .ref m_came, .ref m_answered, .ref m_left, .ref m_leftOn, .ref m_isBurnt, .ref m_heard, .ref m_waitsOn, .ref m_idleOn, .ref m_row, .int 0, .int 0, .long 0, .ref m_key, .int 0, .int 0, .int 0, .int 0, .int 0, .int 0, .int 0, .int 0, .ref m_coming, .int 0, .ref m_tried, .ref m_bestOrder, .int 0, .int 0, .ref m_before, .int 0, .ref m_open])), (m_has, .inl (mk_has, 30, .inl (fun _ => 0)))]) [0, 1] rfl
  have hDc := hD.sub (ws' := [(mq, .inr (9, [.int 0, .ref m_width, .ref m_many, .ref m_cells, .ref m_moved, .ref m_tape, .int 0, .int 0, .int 0, .int 0, .int 0, .long 0, .int 0, .int 0, .int 0, .int (-1), .ref m_lines, .ref m_has, .ref m_person, .ref m_letter, .int 0, .ref m_isKept, .ref m_more, .int 0, .ref m_came, .ref m_answered, .ref m_left, .ref m_leftOn, .ref m_isBurnt, .ref m_heard, .ref m_waitsOn, .ref m_idleOn, .ref m_row, .int 0, .int 0, .long 0, .ref m_key, .int 0, .int 0, .int 0, .int 0, .int 0, .int 0, .int 0, .int 0, .ref m_coming, .int 0, .ref m_tried, .ref m_bestOrder, .int 0, .int 0, .ref m_before, .int 0, .ref m_open])), (m_has, .inl (mk_has, 30, .inl (fun _ => 0)))]) [0, 1] (by decide) rfl
  have hKc := hK.sub (tys' := [(mk_has, .int)]) [0] rfl
  have hFc := va_free (wc := [(mq, .inr (9, [.int 0, .ref m_width, .ref m_many, .ref m_cells, .ref m_moved, .ref m_tape, .int 0, .int 0, .int 0, .int 0, .int 0, .long 0, .int 0, .int 0, .int 0, .int (-1), .ref m_lines, .ref m_has, .ref m_person, .ref m_letter, .int 0, .ref m_isKept, .ref m_more, .int 0, .ref m_came, .ref m_answered, .ref m_left, .ref m_leftOn, .ref m_isBurnt, .ref m_heard, .ref m_waitsOn, .ref m_idleOn, .ref m_row, .int 0, .int 0, .long 0, .ref m_key, .int 0, .int 0, .int 0, .int 0, .int 0, .int 0, .int 0, .int 0, .ref m_coming, .int 0, .ref m_tried, .ref m_bestOrder, .int 0, .int 0, .ref m_before, .int 0, .ref m_open])), (m_has, .inl (mk_has, 30, .inl (fun _ => 0)))]) hD hS hA [0, 1] rfl
  refine va_calli (va_runV (As := [.int (xs 1), .int (xs 2)]) (rest := [.int (-2)]) ⟨hx, hb, hml, hown, hts⟩ (mc_order l dC dI H.size mq m_width m_many m_cells m_moved m_tape m_lines m_has m_person m_letter m_isKept m_more m_came m_answered m_left m_leftOn m_isBurnt m_heard m_waitsOn m_idleOn m_row m_key m_coming m_tried m_bestOrder m_before m_open mk_has ((xs 1)) ((xs 2)) ) (cwV 2 hts (goodV w_1099 w_1100 w_1101 w_5 w_1102) rfl rfl rfl hdV_X9_order ⟨Nat.le_of_ble_eq_true rfl, Nat.le_of_ble_eq_true rfl⟩) ⟨fun a U g mk q => by obtain ⟨q0, q1, qP, qK, qD⟩ := q; exact ⟨q0, q1, qP, va_K.moved (u := U) (U := U.calling g mk a) (Vm.Alike.refl U.vm) qK, qD⟩, va_recv hKc hPc (ci := 9) (q0 := 0) rfl rfl, fun U hU hW => ⟨rfl, by rw [hU], by rw [hU]; exact hPc, va_K.moved hW.alike hKc, hDc.weaken (fun _ _ _ _ => trivial)⟩⟩ rfl rfl hl.1 rfl (lv_room (Nat.le_of_ble_eq_true rfl)) dL_law_922 ⟨Nat.le_of_ble_eq_true rfl, Nat.le_of_ble_eq_true rfl⟩) hS (fun q _ h => hFc q h) hFc (fun r_10 u t H1 locs ht hvm hw hB hz1 hk1 hS => ?_)
  obtain ⟨hP, hD⟩ := va_join (wr := []) (w1 := []) hP hD [0, 1] [] rfl rfl (by decide) (by decide) hk1 hFc nilP nilD
  clear hPc hDc hKc hFc
  generalize H1 = H at hP hS ⊢
  have hP : va_P (dC, dI) vwCl [] H := hP
  have hD : va_D (fun q : Nat => s.heap.size ≤ q) [] := hD
  have hw : r_10 = (-2) := hw
  subst hw
  refine lv_icmp_eq (tgt := 1677) hx hb dL_law_925 (by decide) (fun c_11 => ?_) (fun c_11 => absurd (by decide) c_11)
  exact law_tail C0 hS (lv_sub hl [0, 3] rfl)

set_option maxHeartbeats 4000000 in
set_option maxRecDepth 100000 in
theorem law_place {p : Program} {l : Launch} {e : Env} {s : State} {m : MethodId} {below : List Frame} {meth : Method} {c : Code} {dC : Nat → ClassId} {dI : Nat → Nat → Nat} {b : Nat} {xs : Nat → Int32} {H : Heap} {locs : List Loc} {ls : Array Slot} {x_tape : Nat} {x_reader : Nat} {x_current : Nat} {x_images : Nat} {x_kept : Nat} {x_slots : Nat} {x_diary : Nat} {x_base : Nat} {x_trial : Nat} {x_plan : Nat} {x_orders : Nat} {x_unanswered : Nat} {t0 : Nat} {t1 : Nat} {t2 : Nat} {t3 : Nat} {t4 : Nat} {t5 : Nat} {t6 : Nat} {t7 : Nat} {t8 : Nat} {t9 : Nat} {m_width : Nat} {m_many : Nat} {m_cells : Nat} {m_moved : Nat} {m_tape : Nat} {m_lines : Nat} {m_has : Nat} {m_person : Nat} {m_letter : Nat} {m_isKept : Nat} {m_more : Nat} {m_came : Nat} {m_answered : Nat} {m_left : Nat} {m_leftOn : Nat} {m_isBurnt : Nat} {m_heard : Nat} {m_waitsOn : Nat} {m_idleOn : Nat} {m_row : Nat} {m_key : Nat} {m_coming : Nat} {m_tried : Nat} {m_bestOrder : Nat} {m_before : Nat} {m_open : Nat} {mk_has : ClassId} {xq : Nat} {mq : Nat} (C0 : lw_At p s m meth c b 6 xs)  (hK : va_K (dC, dI) vwCl [(mk_has, .int)] s) (hP : va_P (dC, dI) vwCl [(xq, .inr (8, [.ref x_tape, .ref x_reader, .ref x_current, .ref x_images, .ref x_kept, .ref x_slots, .ref x_diary, .ref x_base, .ref x_trial, .ref x_plan, .ref x_orders, .ref x_unanswered, .int 0, .int 0, .int (-1)])), (x_current, .inr (7, [.int 0, .int 0, .int 0, .int 0, .int 0, .int 0, .int 0, .int 0, .ref t0, .ref t1, .ref t2, .ref t3, .ref t4, .ref t5, .ref t6, .ref t7, .ref t8, .ref t9])), (mq, .inr (9, [.int 0, .ref m_width, .ref m_many, .ref m_cells, .ref m_moved, .ref m_tape, .int 0, .int 0, .int 0, .int 0, .int 0, .long 0, .int 0, .int 0, .int 0, .int (-1), .ref m_lines, .ref m_has, .ref m_person, .ref m_letter, .int 0, .ref m_isKept, .ref m_more, .int 0, .ref m_came, .ref m_answered, .ref m_left, .ref m_leftOn, .ref m_isBurnt, .ref m_heard, .ref m_waitsOn, .ref m_idleOn, .ref m_row, .int 0, .int 0, .long 0, .ref m_key, .int 0, .int 0, .int 0, .int 0, .int 0, .int 0, .int 0, .int 0, .ref m_coming, .int 0, .ref m_tried, .ref m_bestOrder, .int 0, .int 0, .ref m_before, .int 0, .ref m_open])), (m_has, .inl (mk_has, 30, .inl (fun _ => 0)))] H) (hD : va_D (fun q : Nat => s.heap.size ≤ q) [(xq, .inr (8, [.ref x_tape, .ref x_reader, .ref x_current, .ref x_images, .ref x_kept, .ref x_slots, .ref x_diary, .ref x_base, .ref x_trial, .ref x_plan, .ref x_orders, .ref x_unanswered, .int 0, .int 0, .int (-1)])), (x_current, .inr (7, [.int 0, .int 0, .int 0, .int 0, .int 0, .int 0, .int 0, .int 0, .ref t0, .ref t1, .ref t2, .ref t3, .ref t4, .ref t5, .ref t6, .ref t7, .ref t8, .ref t9])), (mq, .inr (9, [.int 0, .ref m_width, .ref m_many, .ref m_cells, .ref m_moved, .ref m_tape, .int 0, .int 0, .int 0, .int 0, .int 0, .long 0, .int 0, .int 0, .int 0, .int (-1), .ref m_lines, .ref m_has, .ref m_person, .ref m_letter, .int 0, .ref m_isKept, .ref m_more, .int 0, .ref m_came, .ref m_answered, .ref m_left, .ref m_leftOn, .ref m_isBurnt, .ref m_heard, .ref m_waitsOn, .ref m_idleOn, .ref m_row, .int 0, .int 0, .long 0, .ref m_key, .int 0, .int 0, .int 0, .int 0, .int 0, .int 0, .int 0, .int 0, .ref m_coming, .int 0, .ref m_tried, .ref m_bestOrder, .int 0, .int 0, .ref m_before, .int 0, .ref m_open])), (m_has, .inl (mk_has, 30, .inl (fun _ => 0)))]) (hS : va_S (fun q : Nat => s.heap.size ≤ q) s.heap H locs) (hl : lv_has ls 4 [(3, .int 0), (2, .ref mq), (1, .ref xq), (0, .ref b)]) : W p l e room_1 s m #[Value.ref b] below meth c H locs 144 16687 (lw_Z below #[Value.ref b] s) (F0 m 930 ls []) := by
  obtain ⟨hx, hb, hr, hml, hown, hts0, hX, hbl, hlocks, hgv⟩ := id C0
  have hts : ∀ w ∈ ALLW, w.before #[Value.ref b] s = true := fun w h => hts0 w (inT w h)
  have hA : ∀ q : Nat, s.heap.size ≤ q → (fun q : Nat => s.heap.size ≤ q) q := fun _ h => h
  have hbA : ¬ (fun q : Nat => s.heap.size ≤ q) b := Nat.not_le.mpr hbl
  refine lv_aload_n hx hb dL_law_930 rfl (lv_at hl 2 rfl) ?_
  refine lv_aload_n hx hb dL_law_931 rfl (lv_at hl 3 rfl) ?_
  refine lv_iload_n hx hb dL_law_932 rfl (lv_at hl 0 rfl) ?_
  refine lv_iconst (v := 1) hx hb dL_law_933 (by decide) ?_
  refine lv_iadd hx hb dL_law_934 ?_
  refine lv_topi (fun x_1 ex_1 => ?_)
  obtain rfl : x_1 = 1 := ex_1.trans (by decide +kernel)
  refine va_sld hx hb hX hbl hbA hS (show vp_in 1 6 from (by unfold vp_in; decide)) dL_law_935 ?_
  refine lv_topi (fun x_2 ex_2 => ?_)
  obtain rfl : x_2 = xs 1 := ex_2.trans (congrArg xs (by decide))
  refine lv_aload_n hx hb dL_law_936 rfl (lv_at hl 3 rfl) ?_
  refine lv_iload_n hx hb dL_law_937 rfl (lv_at hl 0 rfl) ?_
  refine lv_iconst (v := 2) hx hb dL_law_938 (by decide) ?_
  refine lv_iadd hx hb dL_law_939 ?_
  refine lv_topi (fun x_3 ex_3 => ?_)
  obtain rfl : x_3 = 2 := ex_3.trans (by decide +kernel)
  refine va_sld hx hb hX hbl hbA hS (show vp_in 2 6 from (by unfold vp_in; decide)) dL_law_940 ?_
  refine lv_topi (fun x_4 ex_4 => ?_)
  obtain rfl : x_4 = xs 2 := ex_4.trans (congrArg xs (by decide))
  refine lv_aload_n hx hb dL_law_941 rfl (lv_at hl 3 rfl) ?_
  refine lv_iload_n hx hb dL_law_942 rfl (lv_at hl 0 rfl) ?_
  refine lv_iconst (v := 3) hx hb dL_law_943 (by decide) ?_
  refine lv_iadd hx hb dL_law_944 ?_
  refine lv_topi (fun x_5 ex_5 => ?_)
  obtain rfl : x_5 = 3 := ex_5.trans (by decide +kernel)
  refine va_sld hx hb hX hbl hbA hS (show vp_in 3 6 from (by unfold vp_in; decide)) dL_law_945 ?_
  refine lv_topi (fun x_6 ex_6 => ?_)
  obtain rfl : x_6 = xs 3 := ex_6.trans (congrArg xs (by decide))
  have hPc := hP.sub (ws' := [(xq, .inr (8, [.ref x_tape, .ref x_reader, .ref x_current, .ref x_images, .ref x_kept, .ref x_slots, .ref x_diary, .ref x_base, .ref x_trial, .ref x_plan, .ref x_orders, .ref x_unanswered, .int 0, .int 0, .int (-1)])), (x_current, .inr (7, [.int 0, .int 0, .int 0, .int 0, .int 0, .int 0, .int 0, .int 0, .ref t0, .ref t1, .ref t2, .ref t3, .ref t4, .ref t5, .ref t6, .ref t7, .ref t8, .ref t9]))]) [0, 1] rfl
  have hDc := hD.sub (ws' := [(xq, .inr (8, [.ref x_tape, .ref x_reader, .ref x_current, .ref x_images, .ref x_kept, .ref x_slots, .ref x_diary, .ref x_base, .ref x_trial, .ref x_plan, .ref x_orders, .ref x_unanswered, .int 0, .int 0, .int (-1)])), (x_current, .inr (7, [.int 0, .int 0, .int 0, .int 0, .int 0, .int 0, .int 0, .int 0, .ref t0, .ref t1, .ref t2, .ref t3, .ref t4, .ref t5, .ref t6, .ref t7, .ref t8, .ref t9]))]) [0, 1] (by decide) rfl
  have hKc := hK.sub (tys' := []) [] rfl
  have hFc := va_free (wc := [(xq, .inr (8, [.ref x_tape, .ref x_reader, .ref x_current, .ref x_images, .ref x_kept, .ref x_slots, .ref x_diary, .ref x_base, .ref x_trial, .ref x_plan, .ref x_orders, .ref x_unanswered, .int 0, .int 0, .int (-1)])), (x_current, .inr (7, [.int 0, .int 0, .int 0, .int 0, .int 0, .int 0, .int 0, .int 0, .ref t0, .ref t1, .ref t2, .ref t3, .ref t4, .ref t5, .ref t6, .ref t7, .ref t8, .ref t9]))]) hD hS hA [0, 1] rfl
  refine va_calli (va_runV (As := [.int (xs 1), .int (xs 2), .int (xs 3)]) (rest := []) ⟨hx, hb, hml, hown, hts⟩ (x_place l dC dI H.size xq x_tape x_reader x_current x_images x_kept x_slots x_diary x_base x_trial x_plan x_orders x_unanswered t0 t1 t2 t3 t4 t5 t6 t7 t8 t9 ((xs 1)) ((xs 2)) ((xs 3)) ) (cwV 3 hts (goodV w_1114 w_1115 w_1116 w_2 w_1117) rfl rfl rfl hdV_X8_place ⟨Nat.le_of_ble_eq_true rfl, Nat.le_of_ble_eq_true rfl⟩) ⟨fun a U g mk q => by obtain ⟨q0, q1, qP, qK, qD⟩ := q; exact ⟨q0, q1, qP, va_K.moved (u := U) (U := U.calling g mk a) (Vm.Alike.refl U.vm) qK, qD⟩, va_recv hKc hPc (ci := 8) (q0 := 0) rfl rfl, fun U hU hW => ⟨rfl, by rw [hU], by rw [hU]; exact hPc, va_K.moved hW.alike hKc, hDc.weaken (fun _ _ _ _ => trivial)⟩⟩ rfl rfl hl.1 rfl (lv_room (Nat.le_of_ble_eq_true rfl)) dL_law_946 ⟨Nat.le_of_ble_eq_true rfl, Nat.le_of_ble_eq_true rfl⟩) hS (fun q _ h => hFc q h) hFc (fun r_7 u t H1 locs ht hvm hw hB hz1 hk1 hS => ?_)
  obtain ⟨hP, hD⟩ := va_join (wr := [(mq, .inr (9, [.int 0, .ref m_width, .ref m_many, .ref m_cells, .ref m_moved, .ref m_tape, .int 0, .int 0, .int 0, .int 0, .int 0, .long 0, .int 0, .int 0, .int 0, .int (-1), .ref m_lines, .ref m_has, .ref m_person, .ref m_letter, .int 0, .ref m_isKept, .ref m_more, .int 0, .ref m_came, .ref m_answered, .ref m_left, .ref m_leftOn, .ref m_isBurnt, .ref m_heard, .ref m_waitsOn, .ref m_idleOn, .ref m_row, .int 0, .int 0, .long 0, .ref m_key, .int 0, .int 0, .int 0, .int 0, .int 0, .int 0, .int 0, .int 0, .ref m_coming, .int 0, .ref m_tried, .ref m_bestOrder, .int 0, .int 0, .ref m_before, .int 0, .ref m_open])), (m_has, .inl (mk_has, 30, .inl (fun _ => 0)))]) (w1 := []) hP hD [0, 1] [2, 3] rfl rfl (by decide) (by decide) hk1 hFc nilP nilD
  clear hPc hDc hKc hFc
  generalize H1 = H at hP hS ⊢
  have hP : va_P (dC, dI) vwCl [(mq, .inr (9, [.int 0, .ref m_width, .ref m_many, .ref m_cells, .ref m_moved, .ref m_tape, .int 0, .int 0, .int 0, .int 0, .int 0, .long 0, .int 0, .int 0, .int 0, .int (-1), .ref m_lines, .ref m_has, .ref m_person, .ref m_letter, .int 0, .ref m_isKept, .ref m_more, .int 0, .ref m_came, .ref m_answered, .ref m_left, .ref m_leftOn, .ref m_isBurnt, .ref m_heard, .ref m_waitsOn, .ref m_idleOn, .ref m_row, .int 0, .int 0, .long 0, .ref m_key, .int 0, .int 0, .int 0, .int 0, .int 0, .int 0, .int 0, .int 0, .ref m_coming, .int 0, .ref m_tried, .ref m_bestOrder, .int 0, .int 0, .ref m_before, .int 0, .ref m_open])), (m_has, .inl (mk_has, 30, .inl (fun _ => 0)))] H := hP
  have hD : va_D (fun q : Nat => s.heap.size ≤ q) [(mq, .inr (9, [.int 0, .ref m_width, .ref m_many, .ref m_cells, .ref m_moved, .ref m_tape, .int 0, .int 0, .int 0, .int 0, .int 0, .long 0, .int 0, .int 0, .int 0, .int (-1), .ref m_lines, .ref m_has, .ref m_person, .ref m_letter, .int 0, .ref m_isKept, .ref m_more, .int 0, .ref m_came, .ref m_answered, .ref m_left, .ref m_leftOn, .ref m_isBurnt, .ref m_heard, .ref m_waitsOn, .ref m_idleOn, .ref m_row, .int 0, .int 0, .long 0, .ref m_key, .int 0, .int 0, .int 0, .int 0, .int 0, .int 0, .int 0, .int 0, .ref m_coming, .int 0, .ref m_tried, .ref m_bestOrder, .int 0, .int 0, .ref m_before, .int 0, .ref m_open])), (m_has, .inl (mk_has, 30, .inl (fun _ => 0)))] := hD
  have hw : r_7 = (-2) := hw
  subst hw
  refine lv_aload_n hx hb dL_law_949 rfl (lv_at hl 1 rfl) ?_
  refine lv_aload_n hx hb dL_law_950 rfl (lv_at hl 3 rfl) ?_
  refine lv_iload_n hx hb dL_law_951 rfl (lv_at hl 0 rfl) ?_
  refine lv_iconst (v := 1) hx hb dL_law_952 (by decide) ?_
  refine lv_iadd hx hb dL_law_953 ?_
  refine lv_topi (fun x_8 ex_8 => ?_)
  obtain rfl : x_8 = 1 := ex_8.trans (by decide +kernel)
  refine va_sld hx hb hX hbl hbA hS (show vp_in 1 6 from (by unfold vp_in; decide)) dL_law_954 ?_
  refine lv_topi (fun x_9 ex_9 => ?_)
  obtain rfl : x_9 = xs 1 := ex_9.trans (congrArg xs (by decide))
  refine lv_aload_n hx hb dL_law_955 rfl (lv_at hl 3 rfl) ?_
  refine lv_iload_n hx hb dL_law_956 rfl (lv_at hl 0 rfl) ?_
  refine lv_iconst (v := 2) hx hb dL_law_957 (by decide) ?_
  refine lv_iadd hx hb dL_law_958 ?_
  refine lv_topi (fun x_10 ex_10 => ?_)
  obtain rfl : x_10 = 2 := ex_10.trans (by decide +kernel)
  refine va_sld hx hb hX hbl hbA hS (show vp_in 2 6 from (by unfold vp_in; decide)) dL_law_959 ?_
  refine lv_topi (fun x_11 ex_11 => ?_)
  obtain rfl : x_11 = xs 2 := ex_11.trans (congrArg xs (by decide))
  refine lv_aload_n hx hb dL_law_960 rfl (lv_at hl 3 rfl) ?_
  refine lv_iload_n hx hb dL_law_961 rfl (lv_at hl 0 rfl) ?_
  refine lv_iconst (v := 3) hx hb dL_law_962 (by decide) ?_
  refine lv_iadd hx hb dL_law_963 ?_
  refine lv_topi (fun x_12 ex_12 => ?_)
  obtain rfl : x_12 = 3 := ex_12.trans (by decide +kernel)
  refine va_sld hx hb hX hbl hbA hS (show vp_in 3 6 from (by unfold vp_in; decide)) dL_law_964 ?_
  refine lv_topi (fun x_13 ex_13 => ?_)
  obtain rfl : x_13 = xs 3 := ex_13.trans (congrArg xs (by decide))
  have hPc := hP.sub (ws' := [(mq, .inr (9, [.int 0, .ref m_width, .ref m_many, .ref m_cells, .ref m_moved, .ref m_tape, .int 0, .int 0, .int 0, .int 0, .int 0, .long 0, .int 0, .int 0, .int 0, .int (-1), .ref m_lines, .ref m_has, .ref m_person, .ref m_letter, .int 0, .ref m_isKept, .ref m_more, .int 0, .ref m_came, .ref m_answered, .ref m_left, .ref m_leftOn, .ref m_isBurnt, .ref m_heard, .ref m_waitsOn, .ref m_idleOn, .ref m_row, .int 0, .int 0, .long 0, .ref m_key, .int 0, .int 0, .int 0, .int 0, .int 0, .int 0, .int 0, .int 0, .ref m_coming, .int 0, .ref m_tried, .ref m_bestOrder, .int 0, .int 0, .ref m_before, .int 0, .ref m_open])), (m_has, .inl (mk_has, 30, .inl (fun _ => 0)))]) [0, 1] rfl
  have hDc := hD.sub (ws' := [(mq, .inr (9, [.int 0, .ref m_width, .ref m_many, .ref m_cells, .ref m_moved, .ref m_tape, .int 0, .int 0, .int 0, .int 0, .int 0, .long 0, .int 0, .int 0, .int 0, .int (-1), .ref m_lines, .ref m_has, .ref m_person, .ref m_letter, .int 0, .ref m_isKept, .ref m_more, .int 0, .ref m_came, .ref m_answered, .ref m_left, .ref m_leftOn, .ref m_isBurnt, .ref m_heard, .ref m_waitsOn, .ref m_idleOn, .ref m_row, .int 0, .int 0, .long 0, .ref m_key, .int 0, .int 0, .int 0, .int 0, .int 0, .int 0, .int 0, .int 0, .ref m_coming, .int 0, .ref m_tried, .ref m_bestOrder, .int 0, .int 0, .ref m_before, .int 0, .ref m_open])), (m_has, .inl (mk_has, 30, .inl (fun _ => 0)))]) [0, 1] (by decide) rfl
  have hKc := hK.sub (tys' := [(mk_has, .int)]) [0] rfl
  have hFc := va_free (wc := [(mq, .inr (9, [.int 0, .ref m_width, .ref m_many, .ref m_cells, .ref m_moved, .ref m_tape, .int 0, .int 0, .int 0, .int 0, .int 0, .long 0, .int 0, .int 0, .int 0, .int (-1), .ref m_lines, .ref m_has, .ref m_person, .ref m_letter, .int 0, .ref m_isKept, .ref m_more, .int 0, .ref m_came, .ref m_answered, .ref m_left, .ref m_leftOn, .ref m_isBurnt, .ref m_heard, .ref m_waitsOn, .ref m_idleOn, .ref m_row, .int 0, .int 0, .long 0, .ref m_key, .int 0, .int 0, .int 0, .int 0, .int 0, .int 0, .int 0, .int 0, .ref m_coming, .int 0, .ref m_tried, .ref m_bestOrder, .int 0, .int 0, .ref m_before, .int 0, .ref m_open])), (m_has, .inl (mk_has, 30, .inl (fun _ => 0)))]) hD hS hA [0, 1] rfl
  refine va_calli (va_runV (As := [.int (xs 1), .int (xs 2), .int (xs 3)]) (rest := [.int (-2)]) ⟨hx, hb, hml, hown, hts⟩ (mc_place l dC dI H.size mq m_width m_many m_cells m_moved m_tape m_lines m_has m_person m_letter m_isKept m_more m_came m_answered m_left m_leftOn m_isBurnt m_heard m_waitsOn m_idleOn m_row m_key m_coming m_tried m_bestOrder m_before m_open mk_has ((xs 1)) ((xs 2)) ((xs 3)) ) (cwV 3 hts (goodV w_1120 w_1121 w_1122 w_5 w_1123) rfl rfl rfl hdV_X9_place ⟨Nat.le_of_ble_eq_true rfl, Nat.le_of_ble_eq_true rfl⟩) ⟨fun a U g mk q => by obtain ⟨q0, q1, qP, qK, qD⟩ := q; exact ⟨q0, q1, qP, va_K.moved (u := U) (U := U.calling g mk a) (Vm.Alike.refl U.vm) qK, qD⟩, va_recv hKc hPc (ci := 9) (q0 := 0) rfl rfl, fun U hU hW => ⟨rfl, by rw [hU], by rw [hU]; exact hPc, va_K.moved hW.alike hKc, hDc.weaken (fun _ _ _ _ => trivial)⟩⟩ rfl rfl hl.1 rfl (lv_room (Nat.le_of_ble_eq_true rfl)) dL_law_965 ⟨Nat.le_of_ble_eq_true rfl, Nat.le_of_ble_eq_true rfl⟩) hS (fun q _ h => hFc q h) hFc (fun r_14 u t H1 locs ht hvm hw hB hz1 hk1 hS => ?_)
  obtain ⟨hP, hD⟩ := va_join (wr := []) (w1 := []) hP hD [0, 1] [] rfl rfl (by decide) (by decide) hk1 hFc nilP nilD
  clear hPc hDc hKc hFc
  generalize H1 = H at hP hS ⊢
  have hP : va_P (dC, dI) vwCl [] H := hP
  have hD : va_D (fun q : Nat => s.heap.size ≤ q) [] := hD
  have hw : r_14 = (-2) := hw
  subst hw
  refine lv_icmp_eq (tgt := 1677) hx hb dL_law_968 (by decide) (fun c_15 => ?_) (fun c_15 => absurd (by decide) c_15)
  exact law_tail C0 hS (lv_sub hl [0, 3] rfl)

set_option maxHeartbeats 4000000 in
set_option maxRecDepth 100000 in
theorem law_worst {p : Program} {l : Launch} {e : Env} {s : State} {m : MethodId} {below : List Frame} {meth : Method} {c : Code} {dC : Nat → ClassId} {dI : Nat → Nat → Nat} {b : Nat} {xs : Nat → Int32} {H : Heap} {locs : List Loc} {ls : Array Slot} {x_tape : Nat} {x_reader : Nat} {x_current : Nat} {x_images : Nat} {x_kept : Nat} {x_slots : Nat} {x_diary : Nat} {x_base : Nat} {x_trial : Nat} {x_plan : Nat} {x_orders : Nat} {x_unanswered : Nat} {t0 : Nat} {t1 : Nat} {t2 : Nat} {t3 : Nat} {t4 : Nat} {t5 : Nat} {t6 : Nat} {t7 : Nat} {t8 : Nat} {t9 : Nat} {m_width : Nat} {m_many : Nat} {m_cells : Nat} {m_moved : Nat} {m_tape : Nat} {m_lines : Nat} {m_has : Nat} {m_person : Nat} {m_letter : Nat} {m_isKept : Nat} {m_more : Nat} {m_came : Nat} {m_answered : Nat} {m_left : Nat} {m_leftOn : Nat} {m_isBurnt : Nat} {m_heard : Nat} {m_waitsOn : Nat} {m_idleOn : Nat} {m_row : Nat} {m_key : Nat} {m_coming : Nat} {m_tried : Nat} {m_bestOrder : Nat} {m_before : Nat} {m_open : Nat} {mk_has : ClassId} {xq : Nat} {mq : Nat} (C0 : lw_At p s m meth c b 6 xs)  (hK : va_K (dC, dI) vwCl [(mk_has, .int)] s) (hP : va_P (dC, dI) vwCl [(xq, .inr (8, [.ref x_tape, .ref x_reader, .ref x_current, .ref x_images, .ref x_kept, .ref x_slots, .ref x_diary, .ref x_base, .ref x_trial, .ref x_plan, .ref x_orders, .ref x_unanswered, .int 0, .int 0, .int (-1)])), (x_current, .inr (7, [.int 0, .int 0, .int 0, .int 0, .int 0, .int 0, .int 0, .int 0, .ref t0, .ref t1, .ref t2, .ref t3, .ref t4, .ref t5, .ref t6, .ref t7, .ref t8, .ref t9])), (mq, .inr (9, [.int 0, .ref m_width, .ref m_many, .ref m_cells, .ref m_moved, .ref m_tape, .int 0, .int 0, .int 0, .int 0, .int 0, .long 0, .int 0, .int 0, .int 0, .int (-1), .ref m_lines, .ref m_has, .ref m_person, .ref m_letter, .int 0, .ref m_isKept, .ref m_more, .int 0, .ref m_came, .ref m_answered, .ref m_left, .ref m_leftOn, .ref m_isBurnt, .ref m_heard, .ref m_waitsOn, .ref m_idleOn, .ref m_row, .int 0, .int 0, .long 0, .ref m_key, .int 0, .int 0, .int 0, .int 0, .int 0, .int 0, .int 0, .int 0, .ref m_coming, .int 0, .ref m_tried, .ref m_bestOrder, .int 0, .int 0, .ref m_before, .int 0, .ref m_open])), (m_has, .inl (mk_has, 30, .inl (fun _ => 0)))] H) (hD : va_D (fun q : Nat => s.heap.size ≤ q) [(xq, .inr (8, [.ref x_tape, .ref x_reader, .ref x_current, .ref x_images, .ref x_kept, .ref x_slots, .ref x_diary, .ref x_base, .ref x_trial, .ref x_plan, .ref x_orders, .ref x_unanswered, .int 0, .int 0, .int (-1)])), (x_current, .inr (7, [.int 0, .int 0, .int 0, .int 0, .int 0, .int 0, .int 0, .int 0, .ref t0, .ref t1, .ref t2, .ref t3, .ref t4, .ref t5, .ref t6, .ref t7, .ref t8, .ref t9])), (mq, .inr (9, [.int 0, .ref m_width, .ref m_many, .ref m_cells, .ref m_moved, .ref m_tape, .int 0, .int 0, .int 0, .int 0, .int 0, .long 0, .int 0, .int 0, .int 0, .int (-1), .ref m_lines, .ref m_has, .ref m_person, .ref m_letter, .int 0, .ref m_isKept, .ref m_more, .int 0, .ref m_came, .ref m_answered, .ref m_left, .ref m_leftOn, .ref m_isBurnt, .ref m_heard, .ref m_waitsOn, .ref m_idleOn, .ref m_row, .int 0, .int 0, .long 0, .ref m_key, .int 0, .int 0, .int 0, .int 0, .int 0, .int 0, .int 0, .int 0, .ref m_coming, .int 0, .ref m_tried, .ref m_bestOrder, .int 0, .int 0, .ref m_before, .int 0, .ref m_open])), (m_has, .inl (mk_has, 30, .inl (fun _ => 0)))]) (hS : va_S (fun q : Nat => s.heap.size ≤ q) s.heap H locs) (hl : lv_has ls 4 [(3, .int 0), (2, .ref mq), (1, .ref xq), (0, .ref b)]) : W p l e room_1 s m #[Value.ref b] below meth c H locs 144 16687 (lw_Z below #[Value.ref b] s) (F0 m 973 ls []) := by
  obtain ⟨hx, hb, hr, hml, hown, hts0, hX, hbl, hlocks, hgv⟩ := id C0
  have hts : ∀ w ∈ ALLW, w.before #[Value.ref b] s = true := fun w h => hts0 w (inT w h)
  have hA : ∀ q : Nat, s.heap.size ≤ q → (fun q : Nat => s.heap.size ≤ q) q := fun _ h => h
  have hbA : ¬ (fun q : Nat => s.heap.size ≤ q) b := Nat.not_le.mpr hbl
  refine lv_aload_n hx hb dL_law_973 rfl (lv_at hl 2 rfl) ?_
  refine lv_aload_n hx hb dL_law_974 rfl (lv_at hl 3 rfl) ?_
  refine lv_iload_n hx hb dL_law_975 rfl (lv_at hl 0 rfl) ?_
  refine lv_iconst (v := 1) hx hb dL_law_976 (by decide) ?_
  refine lv_iadd hx hb dL_law_977 ?_
  refine lv_topi (fun x_1 ex_1 => ?_)
  obtain rfl : x_1 = 1 := ex_1.trans (by decide +kernel)
  refine va_sld hx hb hX hbl hbA hS (show vp_in 1 6 from (by unfold vp_in; decide)) dL_law_978 ?_
  refine lv_topi (fun x_2 ex_2 => ?_)
  obtain rfl : x_2 = xs 1 := ex_2.trans (congrArg xs (by decide))
  refine lv_aload_n hx hb dL_law_979 rfl (lv_at hl 3 rfl) ?_
  refine lv_iload_n hx hb dL_law_980 rfl (lv_at hl 0 rfl) ?_
  refine lv_iconst (v := 2) hx hb dL_law_981 (by decide) ?_
  refine lv_iadd hx hb dL_law_982 ?_
  refine lv_topi (fun x_3 ex_3 => ?_)
  obtain rfl : x_3 = 2 := ex_3.trans (by decide +kernel)
  refine va_sld hx hb hX hbl hbA hS (show vp_in 2 6 from (by unfold vp_in; decide)) dL_law_983 ?_
  refine lv_topi (fun x_4 ex_4 => ?_)
  obtain rfl : x_4 = xs 2 := ex_4.trans (congrArg xs (by decide))
  have hPc := hP.sub (ws' := [(xq, .inr (8, [.ref x_tape, .ref x_reader, .ref x_current, .ref x_images, .ref x_kept, .ref x_slots, .ref x_diary, .ref x_base, .ref x_trial, .ref x_plan, .ref x_orders, .ref x_unanswered, .int 0, .int 0, .int (-1)])), (x_current, .inr (7, [.int 0, .int 0, .int 0, .int 0, .int 0, .int 0, .int 0, .int 0, .ref t0, .ref t1, .ref t2, .ref t3, .ref t4, .ref t5, .ref t6, .ref t7, .ref t8, .ref t9]))]) [0, 1] rfl
  have hDc := hD.sub (ws' := [(xq, .inr (8, [.ref x_tape, .ref x_reader, .ref x_current, .ref x_images, .ref x_kept, .ref x_slots, .ref x_diary, .ref x_base, .ref x_trial, .ref x_plan, .ref x_orders, .ref x_unanswered, .int 0, .int 0, .int (-1)])), (x_current, .inr (7, [.int 0, .int 0, .int 0, .int 0, .int 0, .int 0, .int 0, .int 0, .ref t0, .ref t1, .ref t2, .ref t3, .ref t4, .ref t5, .ref t6, .ref t7, .ref t8, .ref t9]))]) [0, 1] (by decide) rfl
  have hKc := hK.sub (tys' := []) [] rfl
  have hFc := va_free (wc := [(xq, .inr (8, [.ref x_tape, .ref x_reader, .ref x_current, .ref x_images, .ref x_kept, .ref x_slots, .ref x_diary, .ref x_base, .ref x_trial, .ref x_plan, .ref x_orders, .ref x_unanswered, .int 0, .int 0, .int (-1)])), (x_current, .inr (7, [.int 0, .int 0, .int 0, .int 0, .int 0, .int 0, .int 0, .int 0, .ref t0, .ref t1, .ref t2, .ref t3, .ref t4, .ref t5, .ref t6, .ref t7, .ref t8, .ref t9]))]) hD hS hA [0, 1] rfl
  refine va_calli (va_runV (As := [.int (xs 1), .int (xs 2)]) (rest := []) ⟨hx, hb, hml, hown, hts⟩ (x_worst l dC dI H.size xq x_tape x_reader x_current x_images x_kept x_slots x_diary x_base x_trial x_plan x_orders x_unanswered t0 t1 t2 t3 t4 t5 t6 t7 t8 t9 ((xs 1)) ((xs 2)) ) (cwV 2 hts (goodV w_1124 w_1125 w_1126 w_2 w_1127) rfl rfl rfl hdV_X8_worst ⟨Nat.le_of_ble_eq_true rfl, Nat.le_of_ble_eq_true rfl⟩) ⟨fun a U g mk q => by obtain ⟨q0, q1, qP, qK, qD⟩ := q; exact ⟨q0, q1, qP, va_K.moved (u := U) (U := U.calling g mk a) (Vm.Alike.refl U.vm) qK, qD⟩, va_recv hKc hPc (ci := 8) (q0 := 0) rfl rfl, fun U hU hW => ⟨rfl, by rw [hU], by rw [hU]; exact hPc, va_K.moved hW.alike hKc, hDc.weaken (fun _ _ _ _ => trivial)⟩⟩ rfl rfl hl.1 rfl (lv_room (Nat.le_of_ble_eq_true rfl)) dL_law_984 ⟨Nat.le_of_ble_eq_true rfl, Nat.le_of_ble_eq_true rfl⟩) hS (fun q _ h => hFc q h) hFc (fun r_5 u t H1 locs ht hvm hw hB hz1 hk1 hS => ?_)
  obtain ⟨hP, hD⟩ := va_join (wr := [(mq, .inr (9, [.int 0, .ref m_width, .ref m_many, .ref m_cells, .ref m_moved, .ref m_tape, .int 0, .int 0, .int 0, .int 0, .int 0, .long 0, .int 0, .int 0, .int 0, .int (-1), .ref m_lines, .ref m_has, .ref m_person, .ref m_letter, .int 0, .ref m_isKept, .ref m_more, .int 0, .ref m_came, .ref m_answered, .ref m_left, .ref m_leftOn, .ref m_isBurnt, .ref m_heard, .ref m_waitsOn, .ref m_idleOn, .ref m_row, .int 0, .int 0, .long 0, .ref m_key, .int 0, .int 0, .int 0, .int 0, .int 0, .int 0, .int 0, .int 0, .ref m_coming, .int 0, .ref m_tried, .ref m_bestOrder, .int 0, .int 0, .ref m_before, .int 0, .ref m_open])), (m_has, .inl (mk_has, 30, .inl (fun _ => 0)))]) (w1 := []) hP hD [0, 1] [2, 3] rfl rfl (by decide) (by decide) hk1 hFc nilP nilD
  clear hPc hDc hKc hFc
  generalize H1 = H at hP hS ⊢
  have hP : va_P (dC, dI) vwCl [(mq, .inr (9, [.int 0, .ref m_width, .ref m_many, .ref m_cells, .ref m_moved, .ref m_tape, .int 0, .int 0, .int 0, .int 0, .int 0, .long 0, .int 0, .int 0, .int 0, .int (-1), .ref m_lines, .ref m_has, .ref m_person, .ref m_letter, .int 0, .ref m_isKept, .ref m_more, .int 0, .ref m_came, .ref m_answered, .ref m_left, .ref m_leftOn, .ref m_isBurnt, .ref m_heard, .ref m_waitsOn, .ref m_idleOn, .ref m_row, .int 0, .int 0, .long 0, .ref m_key, .int 0, .int 0, .int 0, .int 0, .int 0, .int 0, .int 0, .int 0, .ref m_coming, .int 0, .ref m_tried, .ref m_bestOrder, .int 0, .int 0, .ref m_before, .int 0, .ref m_open])), (m_has, .inl (mk_has, 30, .inl (fun _ => 0)))] H := hP
  have hD : va_D (fun q : Nat => s.heap.size ≤ q) [(mq, .inr (9, [.int 0, .ref m_width, .ref m_many, .ref m_cells, .ref m_moved, .ref m_tape, .int 0, .int 0, .int 0, .int 0, .int 0, .long 0, .int 0, .int 0, .int 0, .int (-1), .ref m_lines, .ref m_has, .ref m_person, .ref m_letter, .int 0, .ref m_isKept, .ref m_more, .int 0, .ref m_came, .ref m_answered, .ref m_left, .ref m_leftOn, .ref m_isBurnt, .ref m_heard, .ref m_waitsOn, .ref m_idleOn, .ref m_row, .int 0, .int 0, .long 0, .ref m_key, .int 0, .int 0, .int 0, .int 0, .int 0, .int 0, .int 0, .int 0, .ref m_coming, .int 0, .ref m_tried, .ref m_bestOrder, .int 0, .int 0, .ref m_before, .int 0, .ref m_open])), (m_has, .inl (mk_has, 30, .inl (fun _ => 0)))] := hD
  have hw : r_5 = (-2) := hw
  subst hw
  refine lv_aload_n hx hb dL_law_987 rfl (lv_at hl 1 rfl) ?_
  refine lv_aload_n hx hb dL_law_988 rfl (lv_at hl 3 rfl) ?_
  refine lv_iload_n hx hb dL_law_989 rfl (lv_at hl 0 rfl) ?_
  refine lv_iconst (v := 1) hx hb dL_law_990 (by decide) ?_
  refine lv_iadd hx hb dL_law_991 ?_
  refine lv_topi (fun x_6 ex_6 => ?_)
  obtain rfl : x_6 = 1 := ex_6.trans (by decide +kernel)
  refine va_sld hx hb hX hbl hbA hS (show vp_in 1 6 from (by unfold vp_in; decide)) dL_law_992 ?_
  refine lv_topi (fun x_7 ex_7 => ?_)
  obtain rfl : x_7 = xs 1 := ex_7.trans (congrArg xs (by decide))
  refine lv_aload_n hx hb dL_law_993 rfl (lv_at hl 3 rfl) ?_
  refine lv_iload_n hx hb dL_law_994 rfl (lv_at hl 0 rfl) ?_
  refine lv_iconst (v := 2) hx hb dL_law_995 (by decide) ?_
  refine lv_iadd hx hb dL_law_996 ?_
  refine lv_topi (fun x_8 ex_8 => ?_)
  obtain rfl : x_8 = 2 := ex_8.trans (by decide +kernel)
  refine va_sld hx hb hX hbl hbA hS (show vp_in 2 6 from (by unfold vp_in; decide)) dL_law_997 ?_
  refine lv_topi (fun x_9 ex_9 => ?_)
  obtain rfl : x_9 = xs 2 := ex_9.trans (congrArg xs (by decide))
  have hPc := hP.sub (ws' := [(mq, .inr (9, [.int 0, .ref m_width, .ref m_many, .ref m_cells, .ref m_moved, .ref m_tape, .int 0, .int 0, .int 0, .int 0, .int 0, .long 0, .int 0, .int 0, .int 0, .int (-1), .ref m_lines, .ref m_has, .ref m_person, .ref m_letter, .int 0, .ref m_isKept, .ref m_more, .int 0, .ref m_came, .ref m_answered, .ref m_left, .ref m_leftOn, .ref m_isBurnt, .ref m_heard, .ref m_waitsOn, .ref m_idleOn, .ref m_row, .int 0, .int 0, .long 0, .ref m_key, .int 0, .int 0, .int 0, .int 0, .int 0, .int 0, .int 0, .int 0, .ref m_coming, .int 0, .ref m_tried, .ref m_bestOrder, .int 0, .int 0, .ref m_before, .int 0, .ref m_open])), (m_has, .inl (mk_has, 30, .inl (fun _ => 0)))]) [0, 1] rfl
  have hDc := hD.sub (ws' := [(mq, .inr (9, [.int 0, .ref m_width, .ref m_many, .ref m_cells, .ref m_moved, .ref m_tape, .int 0, .int 0, .int 0, .int 0, .int 0, .long 0, .int 0, .int 0, .int 0, .int (-1), .ref m_lines, .ref m_has, .ref m_person, .ref m_letter, .int 0, .ref m_isKept, .ref m_more, .int 0, .ref m_came, .ref m_answered, .ref m_left, .ref m_leftOn, .ref m_isBurnt, .ref m_heard, .ref m_waitsOn, .ref m_idleOn, .ref m_row, .int 0, .int 0, .long 0, .ref m_key, .int 0, .int 0, .int 0, .int 0, .int 0, .int 0, .int 0, .int 0, .ref m_coming, .int 0, .ref m_tried, .ref m_bestOrder, .int 0, .int 0, .ref m_before, .int 0, .ref m_open])), (m_has, .inl (mk_has, 30, .inl (fun _ => 0)))]) [0, 1] (by decide) rfl
  have hKc := hK.sub (tys' := [(mk_has, .int)]) [0] rfl
  have hFc := va_free (wc := [(mq, .inr (9, [.int 0, .ref m_width, .ref m_many, .ref m_cells, .ref m_moved, .ref m_tape, .int 0, .int 0, .int 0, .int 0, .int 0, .long 0, .int 0, .int 0, .int 0, .int (-1), .ref m_lines, .ref m_has, .ref m_person, .ref m_letter, .int 0, .ref m_isKept, .ref m_more, .int 0, .ref m_came, .ref m_answered, .ref m_left, .ref m_leftOn, .ref m_isBurnt, .ref m_heard, .ref m_waitsOn, .ref m_idleOn, .ref m_row, .int 0, .int 0, .long 0, .ref m_key, .int 0, .int 0, .int 0, .int 0, .int 0, .int 0, .int 0, .int 0, .ref m_coming, .int 0, .ref m_tried, .ref m_bestOrder, .int 0, .int 0, .ref m_before, .int 0, .ref m_open])), (m_has, .inl (mk_has, 30, .inl (fun _ => 0)))]) hD hS hA [0, 1] rfl
  refine va_calli (va_runV (As := [.int (xs 1), .int (xs 2)]) (rest := [.int (-2)]) ⟨hx, hb, hml, hown, hts⟩ (mc_worst l dC dI H.size mq m_width m_many m_cells m_moved m_tape m_lines m_has m_person m_letter m_isKept m_more m_came m_answered m_left m_leftOn m_isBurnt m_heard m_waitsOn m_idleOn m_row m_key m_coming m_tried m_bestOrder m_before m_open mk_has ((xs 1)) ((xs 2)) ) (cwV 2 hts (goodV w_1129 w_1130 w_1131 w_5 w_1132) rfl rfl rfl hdV_X9_worst ⟨Nat.le_of_ble_eq_true rfl, Nat.le_of_ble_eq_true rfl⟩) ⟨fun a U g mk q => by obtain ⟨q0, q1, qP, qK, qD⟩ := q; exact ⟨q0, q1, qP, va_K.moved (u := U) (U := U.calling g mk a) (Vm.Alike.refl U.vm) qK, qD⟩, va_recv hKc hPc (ci := 9) (q0 := 0) rfl rfl, fun U hU hW => ⟨rfl, by rw [hU], by rw [hU]; exact hPc, va_K.moved hW.alike hKc, hDc.weaken (fun _ _ _ _ => trivial)⟩⟩ rfl rfl hl.1 rfl (lv_room (Nat.le_of_ble_eq_true rfl)) dL_law_998 ⟨Nat.le_of_ble_eq_true rfl, Nat.le_of_ble_eq_true rfl⟩) hS (fun q _ h => hFc q h) hFc (fun r_10 u t H1 locs ht hvm hw hB hz1 hk1 hS => ?_)
  obtain ⟨hP, hD⟩ := va_join (wr := []) (w1 := []) hP hD [0, 1] [] rfl rfl (by decide) (by decide) hk1 hFc nilP nilD
  clear hPc hDc hKc hFc
  generalize H1 = H at hP hS ⊢
  have hP : va_P (dC, dI) vwCl [] H := hP
  have hD : va_D (fun q : Nat => s.heap.size ≤ q) [] := hD
  have hw : r_10 = (-2) := hw
  subst hw
  refine lv_icmp_eq (tgt := 1677) hx hb dL_law_1001 (by decide) (fun c_11 => ?_) (fun c_11 => absurd (by decide) c_11)
  exact law_tail C0 hS (lv_sub hl [0, 3] rfl)

set_option maxHeartbeats 4000000 in
set_option maxRecDepth 100000 in
theorem law_longest {p : Program} {l : Launch} {e : Env} {s : State} {m : MethodId} {below : List Frame} {meth : Method} {c : Code} {dC : Nat → ClassId} {dI : Nat → Nat → Nat} {b : Nat} {xs : Nat → Int32} {H : Heap} {locs : List Loc} {ls : Array Slot} {x_tape : Nat} {x_reader : Nat} {x_current : Nat} {x_images : Nat} {x_kept : Nat} {x_slots : Nat} {x_diary : Nat} {x_base : Nat} {x_trial : Nat} {x_plan : Nat} {x_orders : Nat} {x_unanswered : Nat} {t0 : Nat} {t1 : Nat} {t2 : Nat} {t3 : Nat} {t4 : Nat} {t5 : Nat} {t6 : Nat} {t7 : Nat} {t8 : Nat} {t9 : Nat} {m_width : Nat} {m_many : Nat} {m_cells : Nat} {m_moved : Nat} {m_tape : Nat} {m_lines : Nat} {m_has : Nat} {m_person : Nat} {m_letter : Nat} {m_isKept : Nat} {m_more : Nat} {m_came : Nat} {m_answered : Nat} {m_left : Nat} {m_leftOn : Nat} {m_isBurnt : Nat} {m_heard : Nat} {m_waitsOn : Nat} {m_idleOn : Nat} {m_row : Nat} {m_key : Nat} {m_coming : Nat} {m_tried : Nat} {m_bestOrder : Nat} {m_before : Nat} {m_open : Nat} {mk_has : ClassId} {xq : Nat} {mq : Nat} (C0 : lw_At p s m meth c b 6 xs)  (hK : va_K (dC, dI) vwCl [(mk_has, .int)] s) (hP : va_P (dC, dI) vwCl [(xq, .inr (8, [.ref x_tape, .ref x_reader, .ref x_current, .ref x_images, .ref x_kept, .ref x_slots, .ref x_diary, .ref x_base, .ref x_trial, .ref x_plan, .ref x_orders, .ref x_unanswered, .int 0, .int 0, .int (-1)])), (x_current, .inr (7, [.int 0, .int 0, .int 0, .int 0, .int 0, .int 0, .int 0, .int 0, .ref t0, .ref t1, .ref t2, .ref t3, .ref t4, .ref t5, .ref t6, .ref t7, .ref t8, .ref t9])), (mq, .inr (9, [.int 0, .ref m_width, .ref m_many, .ref m_cells, .ref m_moved, .ref m_tape, .int 0, .int 0, .int 0, .int 0, .int 0, .long 0, .int 0, .int 0, .int 0, .int (-1), .ref m_lines, .ref m_has, .ref m_person, .ref m_letter, .int 0, .ref m_isKept, .ref m_more, .int 0, .ref m_came, .ref m_answered, .ref m_left, .ref m_leftOn, .ref m_isBurnt, .ref m_heard, .ref m_waitsOn, .ref m_idleOn, .ref m_row, .int 0, .int 0, .long 0, .ref m_key, .int 0, .int 0, .int 0, .int 0, .int 0, .int 0, .int 0, .int 0, .ref m_coming, .int 0, .ref m_tried, .ref m_bestOrder, .int 0, .int 0, .ref m_before, .int 0, .ref m_open])), (m_has, .inl (mk_has, 30, .inl (fun _ => 0)))] H) (hD : va_D (fun q : Nat => s.heap.size ≤ q) [(xq, .inr (8, [.ref x_tape, .ref x_reader, .ref x_current, .ref x_images, .ref x_kept, .ref x_slots, .ref x_diary, .ref x_base, .ref x_trial, .ref x_plan, .ref x_orders, .ref x_unanswered, .int 0, .int 0, .int (-1)])), (x_current, .inr (7, [.int 0, .int 0, .int 0, .int 0, .int 0, .int 0, .int 0, .int 0, .ref t0, .ref t1, .ref t2, .ref t3, .ref t4, .ref t5, .ref t6, .ref t7, .ref t8, .ref t9])), (mq, .inr (9, [.int 0, .ref m_width, .ref m_many, .ref m_cells, .ref m_moved, .ref m_tape, .int 0, .int 0, .int 0, .int 0, .int 0, .long 0, .int 0, .int 0, .int 0, .int (-1), .ref m_lines, .ref m_has, .ref m_person, .ref m_letter, .int 0, .ref m_isKept, .ref m_more, .int 0, .ref m_came, .ref m_answered, .ref m_left, .ref m_leftOn, .ref m_isBurnt, .ref m_heard, .ref m_waitsOn, .ref m_idleOn, .ref m_row, .int 0, .int 0, .long 0, .ref m_key, .int 0, .int 0, .int 0, .int 0, .int 0, .int 0, .int 0, .int 0, .ref m_coming, .int 0, .ref m_tried, .ref m_bestOrder, .int 0, .int 0, .ref m_before, .int 0, .ref m_open])), (m_has, .inl (mk_has, 30, .inl (fun _ => 0)))]) (hS : va_S (fun q : Nat => s.heap.size ≤ q) s.heap H locs) (hl : lv_has ls 4 [(3, .int 0), (2, .ref mq), (1, .ref xq), (0, .ref b)]) : W p l e room_1 s m #[Value.ref b] below meth c H locs 144 16687 (lw_Z below #[Value.ref b] s) (F0 m 1006 ls []) := by
  obtain ⟨hx, hb, hr, hml, hown, hts0, hX, hbl, hlocks, hgv⟩ := id C0
  have hts : ∀ w ∈ ALLW, w.before #[Value.ref b] s = true := fun w h => hts0 w (inT w h)
  have hA : ∀ q : Nat, s.heap.size ≤ q → (fun q : Nat => s.heap.size ≤ q) q := fun _ h => h
  have hbA : ¬ (fun q : Nat => s.heap.size ≤ q) b := Nat.not_le.mpr hbl
  refine lv_aload_n hx hb dL_law_1006 rfl (lv_at hl 2 rfl) ?_
  refine lv_aload_n hx hb dL_law_1007 rfl (lv_at hl 3 rfl) ?_
  refine lv_iload_n hx hb dL_law_1008 rfl (lv_at hl 0 rfl) ?_
  refine lv_iconst (v := 1) hx hb dL_law_1009 (by decide) ?_
  refine lv_iadd hx hb dL_law_1010 ?_
  refine lv_topi (fun x_1 ex_1 => ?_)
  obtain rfl : x_1 = 1 := ex_1.trans (by decide +kernel)
  refine va_sld hx hb hX hbl hbA hS (show vp_in 1 6 from (by unfold vp_in; decide)) dL_law_1011 ?_
  refine lv_topi (fun x_2 ex_2 => ?_)
  obtain rfl : x_2 = xs 1 := ex_2.trans (congrArg xs (by decide))
  have hPc := hP.sub (ws' := [(xq, .inr (8, [.ref x_tape, .ref x_reader, .ref x_current, .ref x_images, .ref x_kept, .ref x_slots, .ref x_diary, .ref x_base, .ref x_trial, .ref x_plan, .ref x_orders, .ref x_unanswered, .int 0, .int 0, .int (-1)])), (x_current, .inr (7, [.int 0, .int 0, .int 0, .int 0, .int 0, .int 0, .int 0, .int 0, .ref t0, .ref t1, .ref t2, .ref t3, .ref t4, .ref t5, .ref t6, .ref t7, .ref t8, .ref t9]))]) [0, 1] rfl
  have hDc := hD.sub (ws' := [(xq, .inr (8, [.ref x_tape, .ref x_reader, .ref x_current, .ref x_images, .ref x_kept, .ref x_slots, .ref x_diary, .ref x_base, .ref x_trial, .ref x_plan, .ref x_orders, .ref x_unanswered, .int 0, .int 0, .int (-1)])), (x_current, .inr (7, [.int 0, .int 0, .int 0, .int 0, .int 0, .int 0, .int 0, .int 0, .ref t0, .ref t1, .ref t2, .ref t3, .ref t4, .ref t5, .ref t6, .ref t7, .ref t8, .ref t9]))]) [0, 1] (by decide) rfl
  have hKc := hK.sub (tys' := []) [] rfl
  have hFc := va_free (wc := [(xq, .inr (8, [.ref x_tape, .ref x_reader, .ref x_current, .ref x_images, .ref x_kept, .ref x_slots, .ref x_diary, .ref x_base, .ref x_trial, .ref x_plan, .ref x_orders, .ref x_unanswered, .int 0, .int 0, .int (-1)])), (x_current, .inr (7, [.int 0, .int 0, .int 0, .int 0, .int 0, .int 0, .int 0, .int 0, .ref t0, .ref t1, .ref t2, .ref t3, .ref t4, .ref t5, .ref t6, .ref t7, .ref t8, .ref t9]))]) hD hS hA [0, 1] rfl
  refine va_calli (va_runV (As := [.int (xs 1)]) (rest := []) ⟨hx, hb, hml, hown, hts⟩ (x_longest l dC dI H.size xq x_tape x_reader x_current x_images x_kept x_slots x_diary x_base x_trial x_plan x_orders x_unanswered t0 t1 t2 t3 t4 t5 t6 t7 t8 t9 ((xs 1)) ) (cwV 1 hts (goodV w_1133 w_1134 w_1135 w_2 w_1136) rfl rfl rfl hdV_X8_longest ⟨Nat.le_of_ble_eq_true rfl, Nat.le_of_ble_eq_true rfl⟩) ⟨fun a U g mk q => by obtain ⟨q0, q1, qP, qK, qD⟩ := q; exact ⟨q0, q1, qP, va_K.moved (u := U) (U := U.calling g mk a) (Vm.Alike.refl U.vm) qK, qD⟩, va_recv hKc hPc (ci := 8) (q0 := 0) rfl rfl, fun U hU hW => ⟨rfl, by rw [hU], by rw [hU]; exact hPc, va_K.moved hW.alike hKc, hDc.weaken (fun _ _ _ _ => trivial)⟩⟩ rfl rfl hl.1 rfl (lv_room (Nat.le_of_ble_eq_true rfl)) dL_law_1012 ⟨Nat.le_of_ble_eq_true rfl, Nat.le_of_ble_eq_true rfl⟩) hS (fun q _ h => hFc q h) hFc (fun r_3 u t H1 locs ht hvm hw hB hz1 hk1 hS => ?_)
  obtain ⟨hP, hD⟩ := va_join (wr := [(mq, .inr (9, [.int 0, .ref m_width, .ref m_many, .ref m_cells, .ref m_moved, .ref m_tape, .int 0, .int 0, .int 0, .int 0, .int 0, .long 0, .int 0, .int 0, .int 0, .int (-1), .ref m_lines, .ref m_has, .ref m_person, .ref m_letter, .int 0, .ref m_isKept, .ref m_more, .int 0, .ref m_came, .ref m_answered, .ref m_left, .ref m_leftOn, .ref m_isBurnt, .ref m_heard, .ref m_waitsOn, .ref m_idleOn, .ref m_row, .int 0, .int 0, .long 0, .ref m_key, .int 0, .int 0, .int 0, .int 0, .int 0, .int 0, .int 0, .int 0, .ref m_coming, .int 0, .ref m_tried, .ref m_bestOrder, .int 0, .int 0, .ref m_before, .int 0, .ref m_open])), (m_has, .inl (mk_has, 30, .inl (fun _ => 0)))]) (w1 := []) hP hD [0, 1] [2, 3] rfl rfl (by decide) (by decide) hk1 hFc nilP nilD
  clear hPc hDc hKc hFc
  generalize H1 = H at hP hS ⊢
  have hP : va_P (dC, dI) vwCl [(mq, .inr (9, [.int 0, .ref m_width, .ref m_many, .ref m_cells, .ref m_moved, .ref m_tape, .int 0, .int 0, .int 0, .int 0, .int 0, .long 0, .int 0, .int 0, .int 0, .int (-1), .ref m_lines, .ref m_has, .ref m_person, .ref m_letter, .int 0, .ref m_isKept, .ref m_more, .int 0, .ref m_came, .ref m_answered, .ref m_left, .ref m_leftOn, .ref m_isBurnt, .ref m_heard, .ref m_waitsOn, .ref m_idleOn, .ref m_row, .int 0, .int 0, .long 0, .ref m_key, .int 0, .int 0, .int 0, .int 0, .int 0, .int 0, .int 0, .int 0, .ref m_coming, .int 0, .ref m_tried, .ref m_bestOrder, .int 0, .int 0, .ref m_before, .int 0, .ref m_open])), (m_has, .inl (mk_has, 30, .inl (fun _ => 0)))] H := hP
  have hD : va_D (fun q : Nat => s.heap.size ≤ q) [(mq, .inr (9, [.int 0, .ref m_width, .ref m_many, .ref m_cells, .ref m_moved, .ref m_tape, .int 0, .int 0, .int 0, .int 0, .int 0, .long 0, .int 0, .int 0, .int 0, .int (-1), .ref m_lines, .ref m_has, .ref m_person, .ref m_letter, .int 0, .ref m_isKept, .ref m_more, .int 0, .ref m_came, .ref m_answered, .ref m_left, .ref m_leftOn, .ref m_isBurnt, .ref m_heard, .ref m_waitsOn, .ref m_idleOn, .ref m_row, .int 0, .int 0, .long 0, .ref m_key, .int 0, .int 0, .int 0, .int 0, .int 0, .int 0, .int 0, .int 0, .ref m_coming, .int 0, .ref m_tried, .ref m_bestOrder, .int 0, .int 0, .ref m_before, .int 0, .ref m_open])), (m_has, .inl (mk_has, 30, .inl (fun _ => 0)))] := hD
  have hw : r_3 = (-2) := hw
  subst hw
  refine lv_aload_n hx hb dL_law_1015 rfl (lv_at hl 1 rfl) ?_
  refine lv_aload_n hx hb dL_law_1016 rfl (lv_at hl 3 rfl) ?_
  refine lv_iload_n hx hb dL_law_1017 rfl (lv_at hl 0 rfl) ?_
  refine lv_iconst (v := 1) hx hb dL_law_1018 (by decide) ?_
  refine lv_iadd hx hb dL_law_1019 ?_
  refine lv_topi (fun x_4 ex_4 => ?_)
  obtain rfl : x_4 = 1 := ex_4.trans (by decide +kernel)
  refine va_sld hx hb hX hbl hbA hS (show vp_in 1 6 from (by unfold vp_in; decide)) dL_law_1020 ?_
  refine lv_topi (fun x_5 ex_5 => ?_)
  obtain rfl : x_5 = xs 1 := ex_5.trans (congrArg xs (by decide))
  have hPc := hP.sub (ws' := [(mq, .inr (9, [.int 0, .ref m_width, .ref m_many, .ref m_cells, .ref m_moved, .ref m_tape, .int 0, .int 0, .int 0, .int 0, .int 0, .long 0, .int 0, .int 0, .int 0, .int (-1), .ref m_lines, .ref m_has, .ref m_person, .ref m_letter, .int 0, .ref m_isKept, .ref m_more, .int 0, .ref m_came, .ref m_answered, .ref m_left, .ref m_leftOn, .ref m_isBurnt, .ref m_heard, .ref m_waitsOn, .ref m_idleOn, .ref m_row, .int 0, .int 0, .long 0, .ref m_key, .int 0, .int 0, .int 0, .int 0, .int 0, .int 0, .int 0, .int 0, .ref m_coming, .int 0, .ref m_tried, .ref m_bestOrder, .int 0, .int 0, .ref m_before, .int 0, .ref m_open])), (m_has, .inl (mk_has, 30, .inl (fun _ => 0)))]) [0, 1] rfl
  have hDc := hD.sub (ws' := [(mq, .inr (9, [.int 0, .ref m_width, .ref m_many, .ref m_cells, .ref m_moved, .ref m_tape, .int 0, .int 0, .int 0, .int 0, .int 0, .long 0, .int 0, .int 0, .int 0, .int (-1), .ref m_lines, .ref m_has, .ref m_person, .ref m_letter, .int 0, .ref m_isKept, .ref m_more, .int 0, .ref m_came, .ref m_answered, .ref m_left, .ref m_leftOn, .ref m_isBurnt, .ref m_heard, .ref m_waitsOn, .ref m_idleOn, .ref m_row, .int 0, .int 0, .long 0, .ref m_key, .int 0, .int 0, .int 0, .int 0, .int 0, .int 0, .int 0, .int 0, .ref m_coming, .int 0, .ref m_tried, .ref m_bestOrder, .int 0, .int 0, .ref m_before, .int 0, .ref m_open])), (m_has, .inl (mk_has, 30, .inl (fun _ => 0)))]) [0, 1] (by decide) rfl
  have hKc := hK.sub (tys' := [(mk_has, .int)]) [0] rfl
  have hFc := va_free (wc := [(mq, .inr (9, [.int 0, .ref m_width, .ref m_many, .ref m_cells, .ref m_moved, .ref m_tape, .int 0, .int 0, .int 0, .int 0, .int 0, .long 0, .int 0, .int 0, .int 0, .int (-1), .ref m_lines, .ref m_has, .ref m_person, .ref m_letter, .int 0, .ref m_isKept, .ref m_more, .int 0, .ref m_came, .ref m_answered, .ref m_left, .ref m_leftOn, .ref m_isBurnt, .ref m_heard, .ref m_waitsOn, .ref m_idleOn, .ref m_row, .int 0, .int 0, .long 0, .ref m_key, .int 0, .int 0, .int 0, .int 0, .int 0, .int 0, .int 0, .int 0, .ref m_coming, .int 0, .ref m_tried, .ref m_bestOrder, .int 0, .int 0, .ref m_before, .int 0, .ref m_open])), (m_has, .inl (mk_has, 30, .inl (fun _ => 0)))]) hD hS hA [0, 1] rfl
  refine va_calli (va_runV (As := [.int (xs 1)]) (rest := [.int (-2)]) ⟨hx, hb, hml, hown, hts⟩ (mc_longest l dC dI H.size mq m_width m_many m_cells m_moved m_tape m_lines m_has m_person m_letter m_isKept m_more m_came m_answered m_left m_leftOn m_isBurnt m_heard m_waitsOn m_idleOn m_row m_key m_coming m_tried m_bestOrder m_before m_open mk_has ((xs 1)) ) (cwV 1 hts (goodV w_1137 w_1138 w_1139 w_5 w_1140) rfl rfl rfl hdV_X9_longest ⟨Nat.le_of_ble_eq_true rfl, Nat.le_of_ble_eq_true rfl⟩) ⟨fun a U g mk q => by obtain ⟨q0, q1, qP, qK, qD⟩ := q; exact ⟨q0, q1, qP, va_K.moved (u := U) (U := U.calling g mk a) (Vm.Alike.refl U.vm) qK, qD⟩, va_recv hKc hPc (ci := 9) (q0 := 0) rfl rfl, fun U hU hW => ⟨rfl, by rw [hU], by rw [hU]; exact hPc, va_K.moved hW.alike hKc, hDc.weaken (fun _ _ _ _ => trivial)⟩⟩ rfl rfl hl.1 rfl (lv_room (Nat.le_of_ble_eq_true rfl)) dL_law_1021 ⟨Nat.le_of_ble_eq_true rfl, Nat.le_of_ble_eq_true rfl⟩) hS (fun q _ h => hFc q h) hFc (fun r_6 u t H1 locs ht hvm hw hB hz1 hk1 hS => ?_)
  obtain ⟨hP, hD⟩ := va_join (wr := []) (w1 := []) hP hD [0, 1] [] rfl rfl (by decide) (by decide) hk1 hFc nilP nilD
  clear hPc hDc hKc hFc
  generalize H1 = H at hP hS ⊢
  have hP : va_P (dC, dI) vwCl [] H := hP
  have hD : va_D (fun q : Nat => s.heap.size ≤ q) [] := hD
  have hw : r_6 = (-2) := hw
  subst hw
  refine lv_icmp_eq (tgt := 1677) hx hb dL_law_1024 (by decide) (fun c_7 => ?_) (fun c_7 => absurd (by decide) c_7)
  exact law_tail C0 hS (lv_sub hl [0, 3] rfl)

set_option maxHeartbeats 4000000 in
set_option maxRecDepth 100000 in
theorem law_just {p : Program} {l : Launch} {e : Env} {s : State} {m : MethodId} {below : List Frame} {meth : Method} {c : Code} {dC : Nat → ClassId} {dI : Nat → Nat → Nat} {b : Nat} {xs : Nat → Int32} {H : Heap} {locs : List Loc} {ls : Array Slot} {x_tape : Nat} {x_reader : Nat} {x_current : Nat} {x_images : Nat} {x_kept : Nat} {x_slots : Nat} {x_diary : Nat} {x_base : Nat} {x_trial : Nat} {x_plan : Nat} {x_orders : Nat} {x_unanswered : Nat} {t0 : Nat} {t1 : Nat} {t2 : Nat} {t3 : Nat} {t4 : Nat} {t5 : Nat} {t6 : Nat} {t7 : Nat} {t8 : Nat} {t9 : Nat} {m_width : Nat} {m_many : Nat} {m_cells : Nat} {m_moved : Nat} {m_tape : Nat} {m_lines : Nat} {m_has : Nat} {m_person : Nat} {m_letter : Nat} {m_isKept : Nat} {m_more : Nat} {m_came : Nat} {m_answered : Nat} {m_left : Nat} {m_leftOn : Nat} {m_isBurnt : Nat} {m_heard : Nat} {m_waitsOn : Nat} {m_idleOn : Nat} {m_row : Nat} {m_key : Nat} {m_coming : Nat} {m_tried : Nat} {m_bestOrder : Nat} {m_before : Nat} {m_open : Nat} {mk_has : ClassId} {xq : Nat} {mq : Nat} (C0 : lw_At p s m meth c b 6 xs)  (hK : va_K (dC, dI) vwCl [(mk_has, .int)] s) (hP : va_P (dC, dI) vwCl [(xq, .inr (8, [.ref x_tape, .ref x_reader, .ref x_current, .ref x_images, .ref x_kept, .ref x_slots, .ref x_diary, .ref x_base, .ref x_trial, .ref x_plan, .ref x_orders, .ref x_unanswered, .int 0, .int 0, .int (-1)])), (x_current, .inr (7, [.int 0, .int 0, .int 0, .int 0, .int 0, .int 0, .int 0, .int 0, .ref t0, .ref t1, .ref t2, .ref t3, .ref t4, .ref t5, .ref t6, .ref t7, .ref t8, .ref t9])), (mq, .inr (9, [.int 0, .ref m_width, .ref m_many, .ref m_cells, .ref m_moved, .ref m_tape, .int 0, .int 0, .int 0, .int 0, .int 0, .long 0, .int 0, .int 0, .int 0, .int (-1), .ref m_lines, .ref m_has, .ref m_person, .ref m_letter, .int 0, .ref m_isKept, .ref m_more, .int 0, .ref m_came, .ref m_answered, .ref m_left, .ref m_leftOn, .ref m_isBurnt, .ref m_heard, .ref m_waitsOn, .ref m_idleOn, .ref m_row, .int 0, .int 0, .long 0, .ref m_key, .int 0, .int 0, .int 0, .int 0, .int 0, .int 0, .int 0, .int 0, .ref m_coming, .int 0, .ref m_tried, .ref m_bestOrder, .int 0, .int 0, .ref m_before, .int 0, .ref m_open])), (m_has, .inl (mk_has, 30, .inl (fun _ => 0)))] H) (hD : va_D (fun q : Nat => s.heap.size ≤ q) [(xq, .inr (8, [.ref x_tape, .ref x_reader, .ref x_current, .ref x_images, .ref x_kept, .ref x_slots, .ref x_diary, .ref x_base, .ref x_trial, .ref x_plan, .ref x_orders, .ref x_unanswered, .int 0, .int 0, .int (-1)])), (x_current, .inr (7, [.int 0, .int 0, .int 0, .int 0, .int 0, .int 0, .int 0, .int 0, .ref t0, .ref t1, .ref t2, .ref t3, .ref t4, .ref t5, .ref t6, .ref t7, .ref t8, .ref t9])), (mq, .inr (9, [.int 0, .ref m_width, .ref m_many, .ref m_cells, .ref m_moved, .ref m_tape, .int 0, .int 0, .int 0, .int 0, .int 0, .long 0, .int 0, .int 0, .int 0, .int (-1), .ref m_lines, .ref m_has, .ref m_person, .ref m_letter, .int 0, .ref m_isKept, .ref m_more, .int 0, .ref m_came, .ref m_answered, .ref m_left, .ref m_leftOn, .ref m_isBurnt, .ref m_heard, .ref m_waitsOn, .ref m_idleOn, .ref m_row, .int 0, .int 0, .long 0, .ref m_key, .int 0, .int 0, .int 0, .int 0, .int 0, .int 0, .int 0, .int 0, .ref m_coming, .int 0, .ref m_tried, .ref m_bestOrder, .int 0, .int 0, .ref m_before, .int 0, .ref m_open])), (m_has, .inl (mk_has, 30, .inl (fun _ => 0)))]) (hS : va_S (fun q : Nat => s.heap.size ≤ q) s.heap H locs) (hl : lv_has ls 4 [(3, .int 0), (2, .ref mq), (1, .ref xq), (0, .ref b)]) : W p l e room_1 s m #[Value.ref b] below meth c H locs 144 16687 (lw_Z below #[Value.ref b] s) (F0 m 1029 ls []) := by
  obtain ⟨hx, hb, hr, hml, hown, hts0, hX, hbl, hlocks, hgv⟩ := id C0
  have hts : ∀ w ∈ ALLW, w.before #[Value.ref b] s = true := fun w h => hts0 w (inT w h)
  have hA : ∀ q : Nat, s.heap.size ≤ q → (fun q : Nat => s.heap.size ≤ q) q := fun _ h => h
  have hbA : ¬ (fun q : Nat => s.heap.size ≤ q) b := Nat.not_le.mpr hbl
  refine lv_aload_n hx hb dL_law_1029 rfl (lv_at hl 2 rfl) ?_
  refine lv_aload_n hx hb dL_law_1030 rfl (lv_at hl 3 rfl) ?_
  refine lv_iload_n hx hb dL_law_1031 rfl (lv_at hl 0 rfl) ?_
  refine lv_iconst (v := 1) hx hb dL_law_1032 (by decide) ?_
  refine lv_iadd hx hb dL_law_1033 ?_
  refine lv_topi (fun x_1 ex_1 => ?_)
  obtain rfl : x_1 = 1 := ex_1.trans (by decide +kernel)
  refine va_sld hx hb hX hbl hbA hS (show vp_in 1 6 from (by unfold vp_in; decide)) dL_law_1034 ?_
  refine lv_topi (fun x_2 ex_2 => ?_)
  obtain rfl : x_2 = xs 1 := ex_2.trans (congrArg xs (by decide))
  refine lv_aload_n hx hb dL_law_1035 rfl (lv_at hl 3 rfl) ?_
  refine lv_iload_n hx hb dL_law_1036 rfl (lv_at hl 0 rfl) ?_
  refine lv_iconst (v := 2) hx hb dL_law_1037 (by decide) ?_
  refine lv_iadd hx hb dL_law_1038 ?_
  refine lv_topi (fun x_3 ex_3 => ?_)
  obtain rfl : x_3 = 2 := ex_3.trans (by decide +kernel)
  refine va_sld hx hb hX hbl hbA hS (show vp_in 2 6 from (by unfold vp_in; decide)) dL_law_1039 ?_
  refine lv_topi (fun x_4 ex_4 => ?_)
  obtain rfl : x_4 = xs 2 := ex_4.trans (congrArg xs (by decide))
  refine lv_aload_n hx hb dL_law_1040 rfl (lv_at hl 3 rfl) ?_
  refine lv_iload_n hx hb dL_law_1041 rfl (lv_at hl 0 rfl) ?_
  refine lv_iconst (v := 3) hx hb dL_law_1042 (by decide) ?_
  refine lv_iadd hx hb dL_law_1043 ?_
  refine lv_topi (fun x_5 ex_5 => ?_)
  obtain rfl : x_5 = 3 := ex_5.trans (by decide +kernel)
  refine va_sld hx hb hX hbl hbA hS (show vp_in 3 6 from (by unfold vp_in; decide)) dL_law_1044 ?_
  refine lv_topi (fun x_6 ex_6 => ?_)
  obtain rfl : x_6 = xs 3 := ex_6.trans (congrArg xs (by decide))
  have hPc := hP.sub (ws' := [(xq, .inr (8, [.ref x_tape, .ref x_reader, .ref x_current, .ref x_images, .ref x_kept, .ref x_slots, .ref x_diary, .ref x_base, .ref x_trial, .ref x_plan, .ref x_orders, .ref x_unanswered, .int 0, .int 0, .int (-1)])), (x_current, .inr (7, [.int 0, .int 0, .int 0, .int 0, .int 0, .int 0, .int 0, .int 0, .ref t0, .ref t1, .ref t2, .ref t3, .ref t4, .ref t5, .ref t6, .ref t7, .ref t8, .ref t9]))]) [0, 1] rfl
  have hDc := hD.sub (ws' := [(xq, .inr (8, [.ref x_tape, .ref x_reader, .ref x_current, .ref x_images, .ref x_kept, .ref x_slots, .ref x_diary, .ref x_base, .ref x_trial, .ref x_plan, .ref x_orders, .ref x_unanswered, .int 0, .int 0, .int (-1)])), (x_current, .inr (7, [.int 0, .int 0, .int 0, .int 0, .int 0, .int 0, .int 0, .int 0, .ref t0, .ref t1, .ref t2, .ref t3, .ref t4, .ref t5, .ref t6, .ref t7, .ref t8, .ref t9]))]) [0, 1] (by decide) rfl
  have hKc := hK.sub (tys' := []) [] rfl
  have hFc := va_free (wc := [(xq, .inr (8, [.ref x_tape, .ref x_reader, .ref x_current, .ref x_images, .ref x_kept, .ref x_slots, .ref x_diary, .ref x_base, .ref x_trial, .ref x_plan, .ref x_orders, .ref x_unanswered, .int 0, .int 0, .int (-1)])), (x_current, .inr (7, [.int 0, .int 0, .int 0, .int 0, .int 0, .int 0, .int 0, .int 0, .ref t0, .ref t1, .ref t2, .ref t3, .ref t4, .ref t5, .ref t6, .ref t7, .ref t8, .ref t9]))]) hD hS hA [0, 1] rfl
  refine va_calli (va_runV (As := [.int (xs 1), .int (xs 2), .int (xs 3)]) (rest := []) ⟨hx, hb, hml, hown, hts⟩ (x_just l dC dI H.size xq x_tape x_reader x_current x_images x_kept x_slots x_diary x_base x_trial x_plan x_orders x_unanswered t0 t1 t2 t3 t4 t5 t6 t7 t8 t9 ((xs 1)) ((xs 2)) ((xs 3)) ) (cwV 3 hts (goodV w_1145 w_1146 w_1147 w_2 w_1148) rfl rfl rfl hdV_X8_just ⟨Nat.le_of_ble_eq_true rfl, Nat.le_of_ble_eq_true rfl⟩) ⟨fun a U g mk q => by obtain ⟨q0, q1, qP, qK, qD⟩ := q; exact ⟨q0, q1, qP, va_K.moved (u := U) (U := U.calling g mk a) (Vm.Alike.refl U.vm) qK, qD⟩, va_recv hKc hPc (ci := 8) (q0 := 0) rfl rfl, fun U hU hW => ⟨rfl, by rw [hU], by rw [hU]; exact hPc, va_K.moved hW.alike hKc, hDc.weaken (fun _ _ _ _ => trivial)⟩⟩ rfl rfl hl.1 rfl (lv_room (Nat.le_of_ble_eq_true rfl)) dL_law_1045 ⟨Nat.le_of_ble_eq_true rfl, Nat.le_of_ble_eq_true rfl⟩) hS (fun q _ h => hFc q h) hFc (fun r_7 u t H1 locs ht hvm hw hB hz1 hk1 hS => ?_)
  obtain ⟨hP, hD⟩ := va_join (wr := [(mq, .inr (9, [.int 0, .ref m_width, .ref m_many, .ref m_cells, .ref m_moved, .ref m_tape, .int 0, .int 0, .int 0, .int 0, .int 0, .long 0, .int 0, .int 0, .int 0, .int (-1), .ref m_lines, .ref m_has, .ref m_person, .ref m_letter, .int 0, .ref m_isKept, .ref m_more, .int 0, .ref m_came, .ref m_answered, .ref m_left, .ref m_leftOn, .ref m_isBurnt, .ref m_heard, .ref m_waitsOn, .ref m_idleOn, .ref m_row, .int 0, .int 0, .long 0, .ref m_key, .int 0, .int 0, .int 0, .int 0, .int 0, .int 0, .int 0, .int 0, .ref m_coming, .int 0, .ref m_tried, .ref m_bestOrder, .int 0, .int 0, .ref m_before, .int 0, .ref m_open])), (m_has, .inl (mk_has, 30, .inl (fun _ => 0)))]) (w1 := []) hP hD [0, 1] [2, 3] rfl rfl (by decide) (by decide) hk1 hFc nilP nilD
  clear hPc hDc hKc hFc
  generalize H1 = H at hP hS ⊢
  have hP : va_P (dC, dI) vwCl [(mq, .inr (9, [.int 0, .ref m_width, .ref m_many, .ref m_cells, .ref m_moved, .ref m_tape, .int 0, .int 0, .int 0, .int 0, .int 0, .long 0, .int 0, .int 0, .int 0, .int (-1), .ref m_lines, .ref m_has, .ref m_person, .ref m_letter, .int 0, .ref m_isKept, .ref m_more, .int 0, .ref m_came, .ref m_answered, .ref m_left, .ref m_leftOn, .ref m_isBurnt, .ref m_heard, .ref m_waitsOn, .ref m_idleOn, .ref m_row, .int 0, .int 0, .long 0, .ref m_key, .int 0, .int 0, .int 0, .int 0, .int 0, .int 0, .int 0, .int 0, .ref m_coming, .int 0, .ref m_tried, .ref m_bestOrder, .int 0, .int 0, .ref m_before, .int 0, .ref m_open])), (m_has, .inl (mk_has, 30, .inl (fun _ => 0)))] H := hP
  have hD : va_D (fun q : Nat => s.heap.size ≤ q) [(mq, .inr (9, [.int 0, .ref m_width, .ref m_many, .ref m_cells, .ref m_moved, .ref m_tape, .int 0, .int 0, .int 0, .int 0, .int 0, .long 0, .int 0, .int 0, .int 0, .int (-1), .ref m_lines, .ref m_has, .ref m_person, .ref m_letter, .int 0, .ref m_isKept, .ref m_more, .int 0, .ref m_came, .ref m_answered, .ref m_left, .ref m_leftOn, .ref m_isBurnt, .ref m_heard, .ref m_waitsOn, .ref m_idleOn, .ref m_row, .int 0, .int 0, .long 0, .ref m_key, .int 0, .int 0, .int 0, .int 0, .int 0, .int 0, .int 0, .int 0, .ref m_coming, .int 0, .ref m_tried, .ref m_bestOrder, .int 0, .int 0, .ref m_before, .int 0, .ref m_open])), (m_has, .inl (mk_has, 30, .inl (fun _ => 0)))] := hD
  have hw : r_7 = (-2) := hw
  subst hw
  refine lv_aload_n hx hb dL_law_1048 rfl (lv_at hl 1 rfl) ?_
  refine lv_aload_n hx hb dL_law_1049 rfl (lv_at hl 3 rfl) ?_
  refine lv_iload_n hx hb dL_law_1050 rfl (lv_at hl 0 rfl) ?_
  refine lv_iconst (v := 1) hx hb dL_law_1051 (by decide) ?_
  refine lv_iadd hx hb dL_law_1052 ?_
  refine lv_topi (fun x_8 ex_8 => ?_)
  obtain rfl : x_8 = 1 := ex_8.trans (by decide +kernel)
  refine va_sld hx hb hX hbl hbA hS (show vp_in 1 6 from (by unfold vp_in; decide)) dL_law_1053 ?_
  refine lv_topi (fun x_9 ex_9 => ?_)
  obtain rfl : x_9 = xs 1 := ex_9.trans (congrArg xs (by decide))
  refine lv_aload_n hx hb dL_law_1054 rfl (lv_at hl 3 rfl) ?_
  refine lv_iload_n hx hb dL_law_1055 rfl (lv_at hl 0 rfl) ?_
  refine lv_iconst (v := 2) hx hb dL_law_1056 (by decide) ?_
  refine lv_iadd hx hb dL_law_1057 ?_
  refine lv_topi (fun x_10 ex_10 => ?_)
  obtain rfl : x_10 = 2 := ex_10.trans (by decide +kernel)
  refine va_sld hx hb hX hbl hbA hS (show vp_in 2 6 from (by unfold vp_in; decide)) dL_law_1058 ?_
  refine lv_topi (fun x_11 ex_11 => ?_)
  obtain rfl : x_11 = xs 2 := ex_11.trans (congrArg xs (by decide))
  refine lv_aload_n hx hb dL_law_1059 rfl (lv_at hl 3 rfl) ?_
  refine lv_iload_n hx hb dL_law_1060 rfl (lv_at hl 0 rfl) ?_
  refine lv_iconst (v := 3) hx hb dL_law_1061 (by decide) ?_
  refine lv_iadd hx hb dL_law_1062 ?_
  refine lv_topi (fun x_12 ex_12 => ?_)
  obtain rfl : x_12 = 3 := ex_12.trans (by decide +kernel)
  refine va_sld hx hb hX hbl hbA hS (show vp_in 3 6 from (by unfold vp_in; decide)) dL_law_1063 ?_
  refine lv_topi (fun x_13 ex_13 => ?_)
  obtain rfl : x_13 = xs 3 := ex_13.trans (congrArg xs (by decide))
  have hPc := hP.sub (ws' := [(mq, .inr (9, [.int 0, .ref m_width, .ref m_many, .ref m_cells, .ref m_moved, .ref m_tape, .int 0, .int 0, .int 0, .int 0, .int 0, .long 0, .int 0, .int 0, .int 0, .int (-1), .ref m_lines, .ref m_has, .ref m_person, .ref m_letter, .int 0, .ref m_isKept, .ref m_more, .int 0, .ref m_came, .ref m_answered, .ref m_left, .ref m_leftOn, .ref m_isBurnt, .ref m_heard, .ref m_waitsOn, .ref m_idleOn, .ref m_row, .int 0, .int 0, .long 0, .ref m_key, .int 0, .int 0, .int 0, .int 0, .int 0, .int 0, .int 0, .int 0, .ref m_coming, .int 0, .ref m_tried, .ref m_bestOrder, .int 0, .int 0, .ref m_before, .int 0, .ref m_open])), (m_has, .inl (mk_has, 30, .inl (fun _ => 0)))]) [0, 1] rfl
  have hDc := hD.sub (ws' := [(mq, .inr (9, [.int 0, .ref m_width, .ref m_many, .ref m_cells, .ref m_moved, .ref m_tape, .int 0, .int 0, .int 0, .int 0, .int 0, .long 0, .int 0, .int 0, .int 0, .int (-1), .ref m_lines, .ref m_has, .ref m_person, .ref m_letter, .int 0, .ref m_isKept, .ref m_more, .int 0, .ref m_came, .ref m_answered, .ref m_left, .ref m_leftOn, .ref m_isBurnt, .ref m_heard, .ref m_waitsOn, .ref m_idleOn, .ref m_row, .int 0, .int 0, .long 0, .ref m_key, .int 0, .int 0, .int 0, .int 0, .int 0, .int 0, .int 0, .int 0, .ref m_coming, .int 0, .ref m_tried, .ref m_bestOrder, .int 0, .int 0, .ref m_before, .int 0, .ref m_open])), (m_has, .inl (mk_has, 30, .inl (fun _ => 0)))]) [0, 1] (by decide) rfl
  have hKc := hK.sub (tys' := [(mk_has, .int)]) [0] rfl
  have hFc := va_free (wc := [(mq, .inr (9, [.int 0, .ref m_width, .ref m_many, .ref m_cells, .ref m_moved, .ref m_tape, .int 0, .int 0, .int 0, .int 0, .int 0, .long 0, .int 0, .int 0, .int 0, .int (-1), .ref m_lines, .ref m_has, .ref m_person, .ref m_letter, .int 0, .ref m_isKept, .ref m_more, .int 0, .ref m_came, .ref m_answered, .ref m_left, .ref m_leftOn, .ref m_isBurnt, .ref m_heard, .ref m_waitsOn, .ref m_idleOn, .ref m_row, .int 0, .int 0, .long 0, .ref m_key, .int 0, .int 0, .int 0, .int 0, .int 0, .int 0, .int 0, .int 0, .ref m_coming, .int 0, .ref m_tried, .ref m_bestOrder, .int 0, .int 0, .ref m_before, .int 0, .ref m_open])), (m_has, .inl (mk_has, 30, .inl (fun _ => 0)))]) hD hS hA [0, 1] rfl
  refine va_calli (va_runV (As := [.int (xs 1), .int (xs 2), .int (xs 3)]) (rest := [.int (-2)]) ⟨hx, hb, hml, hown, hts⟩ (mc_just l dC dI H.size mq m_width m_many m_cells m_moved m_tape m_lines m_has m_person m_letter m_isKept m_more m_came m_answered m_left m_leftOn m_isBurnt m_heard m_waitsOn m_idleOn m_row m_key m_coming m_tried m_bestOrder m_before m_open mk_has ((xs 1)) ((xs 2)) ((xs 3)) ) (cwV 3 hts (goodV w_1150 w_1151 w_1152 w_5 w_1153) rfl rfl rfl hdV_X9_just ⟨Nat.le_of_ble_eq_true rfl, Nat.le_of_ble_eq_true rfl⟩) ⟨fun a U g mk q => by obtain ⟨q0, q1, qP, qK, qD⟩ := q; exact ⟨q0, q1, qP, va_K.moved (u := U) (U := U.calling g mk a) (Vm.Alike.refl U.vm) qK, qD⟩, va_recv hKc hPc (ci := 9) (q0 := 0) rfl rfl, fun U hU hW => ⟨rfl, by rw [hU], by rw [hU]; exact hPc, va_K.moved hW.alike hKc, hDc.weaken (fun _ _ _ _ => trivial)⟩⟩ rfl rfl hl.1 rfl (lv_room (Nat.le_of_ble_eq_true rfl)) dL_law_1064 ⟨Nat.le_of_ble_eq_true rfl, Nat.le_of_ble_eq_true rfl⟩) hS (fun q _ h => hFc q h) hFc (fun r_14 u t H1 locs ht hvm hw hB hz1 hk1 hS => ?_)
  obtain ⟨hP, hD⟩ := va_join (wr := []) (w1 := []) hP hD [0, 1] [] rfl rfl (by decide) (by decide) hk1 hFc nilP nilD
  clear hPc hDc hKc hFc
  generalize H1 = H at hP hS ⊢
  have hP : va_P (dC, dI) vwCl [] H := hP
  have hD : va_D (fun q : Nat => s.heap.size ≤ q) [] := hD
  have hw : r_14 = (-2) := hw
  subst hw
  refine lv_icmp_eq (tgt := 1677) hx hb dL_law_1067 (by decide) (fun c_15 => ?_) (fun c_15 => absurd (by decide) c_15)
  exact law_tail C0 hS (lv_sub hl [0, 3] rfl)

set_option maxHeartbeats 4000000 in
set_option maxRecDepth 100000 in
theorem law_stop {p : Program} {l : Launch} {e : Env} {s : State} {m : MethodId} {below : List Frame} {meth : Method} {c : Code} {dC : Nat → ClassId} {dI : Nat → Nat → Nat} {b : Nat} {xs : Nat → Int32} {H : Heap} {locs : List Loc} {ls : Array Slot} {x_tape : Nat} {x_reader : Nat} {x_current : Nat} {x_images : Nat} {x_kept : Nat} {x_slots : Nat} {x_diary : Nat} {x_base : Nat} {x_trial : Nat} {x_plan : Nat} {x_orders : Nat} {x_unanswered : Nat} {t0 : Nat} {t1 : Nat} {t2 : Nat} {t3 : Nat} {t4 : Nat} {t5 : Nat} {t6 : Nat} {t7 : Nat} {t8 : Nat} {t9 : Nat} {m_width : Nat} {m_many : Nat} {m_cells : Nat} {m_moved : Nat} {m_tape : Nat} {m_lines : Nat} {m_has : Nat} {m_person : Nat} {m_letter : Nat} {m_isKept : Nat} {m_more : Nat} {m_came : Nat} {m_answered : Nat} {m_left : Nat} {m_leftOn : Nat} {m_isBurnt : Nat} {m_heard : Nat} {m_waitsOn : Nat} {m_idleOn : Nat} {m_row : Nat} {m_key : Nat} {m_coming : Nat} {m_tried : Nat} {m_bestOrder : Nat} {m_before : Nat} {m_open : Nat} {mk_has : ClassId} {xq : Nat} {mq : Nat} (C0 : lw_At p s m meth c b 6 xs)  (hK : va_K (dC, dI) vwCl [(mk_has, .int)] s) (hP : va_P (dC, dI) vwCl [(xq, .inr (8, [.ref x_tape, .ref x_reader, .ref x_current, .ref x_images, .ref x_kept, .ref x_slots, .ref x_diary, .ref x_base, .ref x_trial, .ref x_plan, .ref x_orders, .ref x_unanswered, .int 0, .int 0, .int (-1)])), (x_current, .inr (7, [.int 0, .int 0, .int 0, .int 0, .int 0, .int 0, .int 0, .int 0, .ref t0, .ref t1, .ref t2, .ref t3, .ref t4, .ref t5, .ref t6, .ref t7, .ref t8, .ref t9])), (mq, .inr (9, [.int 0, .ref m_width, .ref m_many, .ref m_cells, .ref m_moved, .ref m_tape, .int 0, .int 0, .int 0, .int 0, .int 0, .long 0, .int 0, .int 0, .int 0, .int (-1), .ref m_lines, .ref m_has, .ref m_person, .ref m_letter, .int 0, .ref m_isKept, .ref m_more, .int 0, .ref m_came, .ref m_answered, .ref m_left, .ref m_leftOn, .ref m_isBurnt, .ref m_heard, .ref m_waitsOn, .ref m_idleOn, .ref m_row, .int 0, .int 0, .long 0, .ref m_key, .int 0, .int 0, .int 0, .int 0, .int 0, .int 0, .int 0, .int 0, .ref m_coming, .int 0, .ref m_tried, .ref m_bestOrder, .int 0, .int 0, .ref m_before, .int 0, .ref m_open])), (m_has, .inl (mk_has, 30, .inl (fun _ => 0)))] H) (hD : va_D (fun q : Nat => s.heap.size ≤ q) [(xq, .inr (8, [.ref x_tape, .ref x_reader, .ref x_current, .ref x_images, .ref x_kept, .ref x_slots, .ref x_diary, .ref x_base, .ref x_trial, .ref x_plan, .ref x_orders, .ref x_unanswered, .int 0, .int 0, .int (-1)])), (x_current, .inr (7, [.int 0, .int 0, .int 0, .int 0, .int 0, .int 0, .int 0, .int 0, .ref t0, .ref t1, .ref t2, .ref t3, .ref t4, .ref t5, .ref t6, .ref t7, .ref t8, .ref t9])), (mq, .inr (9, [.int 0, .ref m_width, .ref m_many, .ref m_cells, .ref m_moved, .ref m_tape, .int 0, .int 0, .int 0, .int 0, .int 0, .long 0, .int 0, .int 0, .int 0, .int (-1), .ref m_lines, .ref m_has, .ref m_person, .ref m_letter, .int 0, .ref m_isKept, .ref m_more, .int 0, .ref m_came, .ref m_answered, .ref m_left, .ref m_leftOn, .ref m_isBurnt, .ref m_heard, .ref m_waitsOn, .ref m_idleOn, .ref m_row, .int 0, .int 0, .long 0, .ref m_key, .int 0, .int 0, .int 0, .int 0, .int 0, .int 0, .int 0, .int 0, .ref m_coming, .int 0, .ref m_tried, .ref m_bestOrder, .int 0, .int 0, .ref m_before, .int 0, .ref m_open])), (m_has, .inl (mk_has, 30, .inl (fun _ => 0)))]) (hS : va_S (fun q : Nat => s.heap.size ≤ q) s.heap H locs) (hl : lv_has ls 4 [(3, .int 0), (2, .ref mq), (1, .ref xq), (0, .ref b)]) : W p l e room_1 s m #[Value.ref b] below meth c H locs 144 16687 (lw_Z below #[Value.ref b] s) (F0 m 1072 ls []) := by
  obtain ⟨hx, hb, hr, hml, hown, hts0, hX, hbl, hlocks, hgv⟩ := id C0
  have hts : ∀ w ∈ ALLW, w.before #[Value.ref b] s = true := fun w h => hts0 w (inT w h)
  have hA : ∀ q : Nat, s.heap.size ≤ q → (fun q : Nat => s.heap.size ≤ q) q := fun _ h => h
  have hbA : ¬ (fun q : Nat => s.heap.size ≤ q) b := Nat.not_le.mpr hbl
  refine lv_aload_n hx hb dL_law_1072 rfl (lv_at hl 2 rfl) ?_
  refine lv_aload_n hx hb dL_law_1073 rfl (lv_at hl 3 rfl) ?_
  refine lv_iload_n hx hb dL_law_1074 rfl (lv_at hl 0 rfl) ?_
  refine lv_iconst (v := 1) hx hb dL_law_1075 (by decide) ?_
  refine lv_iadd hx hb dL_law_1076 ?_
  refine lv_topi (fun x_1 ex_1 => ?_)
  obtain rfl : x_1 = 1 := ex_1.trans (by decide +kernel)
  refine va_sld hx hb hX hbl hbA hS (show vp_in 1 6 from (by unfold vp_in; decide)) dL_law_1077 ?_
  refine lv_topi (fun x_2 ex_2 => ?_)
  obtain rfl : x_2 = xs 1 := ex_2.trans (congrArg xs (by decide))
  refine lv_aload_n hx hb dL_law_1078 rfl (lv_at hl 3 rfl) ?_
  refine lv_iload_n hx hb dL_law_1079 rfl (lv_at hl 0 rfl) ?_
  refine lv_iconst (v := 2) hx hb dL_law_1080 (by decide) ?_
  refine lv_iadd hx hb dL_law_1081 ?_
  refine lv_topi (fun x_3 ex_3 => ?_)
  obtain rfl : x_3 = 2 := ex_3.trans (by decide +kernel)
  refine va_sld hx hb hX hbl hbA hS (show vp_in 2 6 from (by unfold vp_in; decide)) dL_law_1082 ?_
  refine lv_topi (fun x_4 ex_4 => ?_)
  obtain rfl : x_4 = xs 2 := ex_4.trans (congrArg xs (by decide))
  refine lv_aload_n hx hb dL_law_1083 rfl (lv_at hl 3 rfl) ?_
  refine lv_iload_n hx hb dL_law_1084 rfl (lv_at hl 0 rfl) ?_
  refine lv_iconst (v := 3) hx hb dL_law_1085 (by decide) ?_
  refine lv_iadd hx hb dL_law_1086 ?_
  refine lv_topi (fun x_5 ex_5 => ?_)
  obtain rfl : x_5 = 3 := ex_5.trans (by decide +kernel)
  refine va_sld hx hb hX hbl hbA hS (show vp_in 3 6 from (by unfold vp_in; decide)) dL_law_1087 ?_
  refine lv_topi (fun x_6 ex_6 => ?_)
  obtain rfl : x_6 = xs 3 := ex_6.trans (congrArg xs (by decide))
  refine lv_aload_n hx hb dL_law_1088 rfl (lv_at hl 3 rfl) ?_
  refine lv_iload_n hx hb dL_law_1089 rfl (lv_at hl 0 rfl) ?_
  refine lv_iconst (v := 4) hx hb dL_law_1090 (by decide) ?_
  refine lv_iadd hx hb dL_law_1091 ?_
  refine lv_topi (fun x_7 ex_7 => ?_)
  obtain rfl : x_7 = 4 := ex_7.trans (by decide +kernel)
  refine va_sld hx hb hX hbl hbA hS (show vp_in 4 6 from (by unfold vp_in; decide)) dL_law_1092 ?_
  refine lv_topi (fun x_8 ex_8 => ?_)
  obtain rfl : x_8 = xs 4 := ex_8.trans (congrArg xs (by decide))
  refine lv_aload_n hx hb dL_law_1093 rfl (lv_at hl 3 rfl) ?_
  refine lv_iload_n hx hb dL_law_1094 rfl (lv_at hl 0 rfl) ?_
  refine lv_iconst (v := 5) hx hb dL_law_1095 (by decide) ?_
  refine lv_iadd hx hb dL_law_1096 ?_
  refine lv_topi (fun x_9 ex_9 => ?_)
  obtain rfl : x_9 = 5 := ex_9.trans (by decide +kernel)
  refine va_sld hx hb hX hbl hbA hS (show vp_in 5 6 from (by unfold vp_in; decide)) dL_law_1097 ?_
  refine lv_topi (fun x_10 ex_10 => ?_)
  obtain rfl : x_10 = xs 5 := ex_10.trans (congrArg xs (by decide))
  have hPc := hP.sub (ws' := [(xq, .inr (8, [.ref x_tape, .ref x_reader, .ref x_current, .ref x_images, .ref x_kept, .ref x_slots, .ref x_diary, .ref x_base, .ref x_trial, .ref x_plan, .ref x_orders, .ref x_unanswered, .int 0, .int 0, .int (-1)])), (x_current, .inr (7, [.int 0, .int 0, .int 0, .int 0, .int 0, .int 0, .int 0, .int 0, .ref t0, .ref t1, .ref t2, .ref t3, .ref t4, .ref t5, .ref t6, .ref t7, .ref t8, .ref t9]))]) [0, 1] rfl
  have hDc := hD.sub (ws' := [(xq, .inr (8, [.ref x_tape, .ref x_reader, .ref x_current, .ref x_images, .ref x_kept, .ref x_slots, .ref x_diary, .ref x_base, .ref x_trial, .ref x_plan, .ref x_orders, .ref x_unanswered, .int 0, .int 0, .int (-1)])), (x_current, .inr (7, [.int 0, .int 0, .int 0, .int 0, .int 0, .int 0, .int 0, .int 0, .ref t0, .ref t1, .ref t2, .ref t3, .ref t4, .ref t5, .ref t6, .ref t7, .ref t8, .ref t9]))]) [0, 1] (by decide) rfl
  have hKc := hK.sub (tys' := []) [] rfl
  have hFc := va_free (wc := [(xq, .inr (8, [.ref x_tape, .ref x_reader, .ref x_current, .ref x_images, .ref x_kept, .ref x_slots, .ref x_diary, .ref x_base, .ref x_trial, .ref x_plan, .ref x_orders, .ref x_unanswered, .int 0, .int 0, .int (-1)])), (x_current, .inr (7, [.int 0, .int 0, .int 0, .int 0, .int 0, .int 0, .int 0, .int 0, .ref t0, .ref t1, .ref t2, .ref t3, .ref t4, .ref t5, .ref t6, .ref t7, .ref t8, .ref t9]))]) hD hS hA [0, 1] rfl
  refine va_calli (va_runV (As := [.int (xs 1), .int (xs 2), .int (xs 3), .int (xs 4), .int (xs 5)]) (rest := []) ⟨hx, hb, hml, hown, hts⟩ (x_stop l dC dI H.size xq x_tape x_reader x_current x_images x_kept x_slots x_diary x_base x_trial x_plan x_orders x_unanswered t0 t1 t2 t3 t4 t5 t6 t7 t8 t9 ((xs 1)) ((xs 2)) ((xs 3)) ((xs 4)) ((xs 5)) ) (cwV 5 hts (goodV w_1154 w_1155 w_1156 w_2 w_1157) rfl rfl rfl hdV_X8_stop ⟨Nat.le_of_ble_eq_true rfl, Nat.le_of_ble_eq_true rfl⟩) ⟨fun a U g mk q => by obtain ⟨q0, q1, qP, qK, qD⟩ := q; exact ⟨q0, q1, qP, va_K.moved (u := U) (U := U.calling g mk a) (Vm.Alike.refl U.vm) qK, qD⟩, va_recv hKc hPc (ci := 8) (q0 := 0) rfl rfl, fun U hU hW => ⟨rfl, by rw [hU], by rw [hU]; exact hPc, va_K.moved hW.alike hKc, hDc.weaken (fun _ _ _ _ => trivial)⟩⟩ rfl rfl hl.1 rfl (lv_room (Nat.le_of_ble_eq_true rfl)) dL_law_1098 ⟨Nat.le_of_ble_eq_true rfl, Nat.le_of_ble_eq_true rfl⟩) hS (fun q _ h => hFc q h) hFc (fun r_11 u t H1 locs ht hvm hw hB hz1 hk1 hS => ?_)
  obtain ⟨hP, hD⟩ := va_join (wr := [(mq, .inr (9, [.int 0, .ref m_width, .ref m_many, .ref m_cells, .ref m_moved, .ref m_tape, .int 0, .int 0, .int 0, .int 0, .int 0, .long 0, .int 0, .int 0, .int 0, .int (-1), .ref m_lines, .ref m_has, .ref m_person, .ref m_letter, .int 0, .ref m_isKept, .ref m_more, .int 0, .ref m_came, .ref m_answered, .ref m_left, .ref m_leftOn, .ref m_isBurnt, .ref m_heard, .ref m_waitsOn, .ref m_idleOn, .ref m_row, .int 0, .int 0, .long 0, .ref m_key, .int 0, .int 0, .int 0, .int 0, .int 0, .int 0, .int 0, .int 0, .ref m_coming, .int 0, .ref m_tried, .ref m_bestOrder, .int 0, .int 0, .ref m_before, .int 0, .ref m_open])), (m_has, .inl (mk_has, 30, .inl (fun _ => 0)))]) (w1 := []) hP hD [0, 1] [2, 3] rfl rfl (by decide) (by decide) hk1 hFc nilP nilD
  clear hPc hDc hKc hFc
  generalize H1 = H at hP hS ⊢
  have hP : va_P (dC, dI) vwCl [(mq, .inr (9, [.int 0, .ref m_width, .ref m_many, .ref m_cells, .ref m_moved, .ref m_tape, .int 0, .int 0, .int 0, .int 0, .int 0, .long 0, .int 0, .int 0, .int 0, .int (-1), .ref m_lines, .ref m_has, .ref m_person, .ref m_letter, .int 0, .ref m_isKept, .ref m_more, .int 0, .ref m_came, .ref m_answered, .ref m_left, .ref m_leftOn, .ref m_isBurnt, .ref m_heard, .ref m_waitsOn, .ref m_idleOn, .ref m_row, .int 0, .int 0, .long 0, .ref m_key, .int 0, .int 0, .int 0, .int 0, .int 0, .int 0, .int 0, .int 0, .ref m_coming, .int 0, .ref m_tried, .ref m_bestOrder, .int 0, .int 0, .ref m_before, .int 0, .ref m_open])), (m_has, .inl (mk_has, 30, .inl (fun _ => 0)))] H := hP
  have hD : va_D (fun q : Nat => s.heap.size ≤ q) [(mq, .inr (9, [.int 0, .ref m_width, .ref m_many, .ref m_cells, .ref m_moved, .ref m_tape, .int 0, .int 0, .int 0, .int 0, .int 0, .long 0, .int 0, .int 0, .int 0, .int (-1), .ref m_lines, .ref m_has, .ref m_person, .ref m_letter, .int 0, .ref m_isKept, .ref m_more, .int 0, .ref m_came, .ref m_answered, .ref m_left, .ref m_leftOn, .ref m_isBurnt, .ref m_heard, .ref m_waitsOn, .ref m_idleOn, .ref m_row, .int 0, .int 0, .long 0, .ref m_key, .int 0, .int 0, .int 0, .int 0, .int 0, .int 0, .int 0, .int 0, .ref m_coming, .int 0, .ref m_tried, .ref m_bestOrder, .int 0, .int 0, .ref m_before, .int 0, .ref m_open])), (m_has, .inl (mk_has, 30, .inl (fun _ => 0)))] := hD
  have hw : r_11 = (-2) := hw
  subst hw
  refine lv_aload_n hx hb dL_law_1101 rfl (lv_at hl 1 rfl) ?_
  refine lv_aload_n hx hb dL_law_1102 rfl (lv_at hl 3 rfl) ?_
  refine lv_iload_n hx hb dL_law_1103 rfl (lv_at hl 0 rfl) ?_
  refine lv_iconst (v := 1) hx hb dL_law_1104 (by decide) ?_
  refine lv_iadd hx hb dL_law_1105 ?_
  refine lv_topi (fun x_12 ex_12 => ?_)
  obtain rfl : x_12 = 1 := ex_12.trans (by decide +kernel)
  refine va_sld hx hb hX hbl hbA hS (show vp_in 1 6 from (by unfold vp_in; decide)) dL_law_1106 ?_
  refine lv_topi (fun x_13 ex_13 => ?_)
  obtain rfl : x_13 = xs 1 := ex_13.trans (congrArg xs (by decide))
  refine lv_aload_n hx hb dL_law_1107 rfl (lv_at hl 3 rfl) ?_
  refine lv_iload_n hx hb dL_law_1108 rfl (lv_at hl 0 rfl) ?_
  refine lv_iconst (v := 2) hx hb dL_law_1109 (by decide) ?_
  refine lv_iadd hx hb dL_law_1110 ?_
  refine lv_topi (fun x_14 ex_14 => ?_)
  obtain rfl : x_14 = 2 := ex_14.trans (by decide +kernel)
  refine va_sld hx hb hX hbl hbA hS (show vp_in 2 6 from (by unfold vp_in; decide)) dL_law_1111 ?_
  refine lv_topi (fun x_15 ex_15 => ?_)
  obtain rfl : x_15 = xs 2 := ex_15.trans (congrArg xs (by decide))
  refine lv_aload_n hx hb dL_law_1112 rfl (lv_at hl 3 rfl) ?_
  refine lv_iload_n hx hb dL_law_1113 rfl (lv_at hl 0 rfl) ?_
  refine lv_iconst (v := 3) hx hb dL_law_1114 (by decide) ?_
  refine lv_iadd hx hb dL_law_1115 ?_
  refine lv_topi (fun x_16 ex_16 => ?_)
  obtain rfl : x_16 = 3 := ex_16.trans (by decide +kernel)
  refine va_sld hx hb hX hbl hbA hS (show vp_in 3 6 from (by unfold vp_in; decide)) dL_law_1116 ?_
  refine lv_topi (fun x_17 ex_17 => ?_)
  obtain rfl : x_17 = xs 3 := ex_17.trans (congrArg xs (by decide))
  refine lv_aload_n hx hb dL_law_1117 rfl (lv_at hl 3 rfl) ?_
  refine lv_iload_n hx hb dL_law_1118 rfl (lv_at hl 0 rfl) ?_
  refine lv_iconst (v := 4) hx hb dL_law_1119 (by decide) ?_
  refine lv_iadd hx hb dL_law_1120 ?_
  refine lv_topi (fun x_18 ex_18 => ?_)
  obtain rfl : x_18 = 4 := ex_18.trans (by decide +kernel)
  refine va_sld hx hb hX hbl hbA hS (show vp_in 4 6 from (by unfold vp_in; decide)) dL_law_1121 ?_
  refine lv_topi (fun x_19 ex_19 => ?_)
  obtain rfl : x_19 = xs 4 := ex_19.trans (congrArg xs (by decide))
  refine lv_aload_n hx hb dL_law_1122 rfl (lv_at hl 3 rfl) ?_
  refine lv_iload_n hx hb dL_law_1123 rfl (lv_at hl 0 rfl) ?_
  refine lv_iconst (v := 5) hx hb dL_law_1124 (by decide) ?_
  refine lv_iadd hx hb dL_law_1125 ?_
  refine lv_topi (fun x_20 ex_20 => ?_)
  obtain rfl : x_20 = 5 := ex_20.trans (by decide +kernel)
  refine va_sld hx hb hX hbl hbA hS (show vp_in 5 6 from (by unfold vp_in; decide)) dL_law_1126 ?_
  refine lv_topi (fun x_21 ex_21 => ?_)
  obtain rfl : x_21 = xs 5 := ex_21.trans (congrArg xs (by decide))
  have hPc := hP.sub (ws' := [(mq, .inr (9, [.int 0, .ref m_width, .ref m_many, .ref m_cells, .ref m_moved, .ref m_tape, .int 0, .int 0, .int 0, .int 0, .int 0, .long 0, .int 0, .int 0, .int 0, .int (-1), .ref m_lines, .ref m_has, .ref m_person, .ref m_letter, .int 0, .ref m_isKept, .ref m_more, .int 0, .ref m_came, .ref m_answered, .ref m_left, .ref m_leftOn, .ref m_isBurnt, .ref m_heard, .ref m_waitsOn, .ref m_idleOn, .ref m_row, .int 0, .int 0, .long 0, .ref m_key, .int 0, .int 0, .int 0, .int 0, .int 0, .int 0, .int 0, .int 0, .ref m_coming, .int 0, .ref m_tried, .ref m_bestOrder, .int 0, .int 0, .ref m_before, .int 0, .ref m_open])), (m_has, .inl (mk_has, 30, .inl (fun _ => 0)))]) [0, 1] rfl
  have hDc := hD.sub (ws' := [(mq, .inr (9, [.int 0, .ref m_width, .ref m_many, .ref m_cells, .ref m_moved, .ref m_tape, .int 0, .int 0, .int 0, .int 0, .int 0, .long 0, .int 0, .int 0, .int 0, .int (-1), .ref m_lines, .ref m_has, .ref m_person, .ref m_letter, .int 0, .ref m_isKept, .ref m_more, .int 0, .ref m_came, .ref m_answered, .ref m_left, .ref m_leftOn, .ref m_isBurnt, .ref m_heard, .ref m_waitsOn, .ref m_idleOn, .ref m_row, .int 0, .int 0, .long 0, .ref m_key, .int 0, .int 0, .int 0, .int 0, .int 0, .int 0, .int 0, .int 0, .ref m_coming, .int 0, .ref m_tried, .ref m_bestOrder, .int 0, .int 0, .ref m_before, .int 0, .ref m_open])), (m_has, .inl (mk_has, 30, .inl (fun _ => 0)))]) [0, 1] (by decide) rfl
  have hKc := hK.sub (tys' := [(mk_has, .int)]) [0] rfl
  have hFc := va_free (wc := [(mq, .inr (9, [.int 0, .ref m_width, .ref m_many, .ref m_cells, .ref m_moved, .ref m_tape, .int 0, .int 0, .int 0, .int 0, .int 0, .long 0, .int 0, .int 0, .int 0, .int (-1), .ref m_lines, .ref m_has, .ref m_person, .ref m_letter, .int 0, .ref m_isKept, .ref m_more, .int 0, .ref m_came, .ref m_answered, .ref m_left, .ref m_leftOn, .ref m_isBurnt, .ref m_heard, .ref m_waitsOn, .ref m_idleOn, .ref m_row, .int 0, .int 0, .long 0, .ref m_key, .int 0, .int 0, .int 0, .int 0, .int 0, .int 0, .int 0, .int 0, .ref m_coming, .int 0, .ref m_tried, .ref m_bestOrder, .int 0, .int 0, .ref m_before, .int 0, .ref m_open])), (m_has, .inl (mk_has, 30, .inl (fun _ => 0)))]) hD hS hA [0, 1] rfl
  refine va_calli (va_runV (As := [.int (xs 1), .int (xs 2), .int (xs 3), .int (xs 4), .int (xs 5)]) (rest := [.int (-2)]) ⟨hx, hb, hml, hown, hts⟩ (mc_stop l dC dI H.size mq m_width m_many m_cells m_moved m_tape m_lines m_has m_person m_letter m_isKept m_more m_came m_answered m_left m_leftOn m_isBurnt m_heard m_waitsOn m_idleOn m_row m_key m_coming m_tried m_bestOrder m_before m_open mk_has ((xs 1)) ((xs 2)) ((xs 3)) ((xs 4)) ((xs 5)) ) (cwV 5 hts (goodV w_1170 w_1171 w_1172 w_5 w_1173) rfl rfl rfl hdV_X9_stop ⟨Nat.le_of_ble_eq_true rfl, Nat.le_of_ble_eq_true rfl⟩) ⟨fun a U g mk q => by obtain ⟨q0, q1, qP, qK, qD⟩ := q; exact ⟨q0, q1, qP, va_K.moved (u := U) (U := U.calling g mk a) (Vm.Alike.refl U.vm) qK, qD⟩, va_recv hKc hPc (ci := 9) (q0 := 0) rfl rfl, fun U hU hW => ⟨rfl, by rw [hU], by rw [hU]; exact hPc, va_K.moved hW.alike hKc, hDc.weaken (fun _ _ _ _ => trivial)⟩⟩ rfl rfl hl.1 rfl (lv_room (Nat.le_of_ble_eq_true rfl)) dL_law_1127 ⟨Nat.le_of_ble_eq_true rfl, Nat.le_of_ble_eq_true rfl⟩) hS (fun q _ h => hFc q h) hFc (fun r_22 u t H1 locs ht hvm hw hB hz1 hk1 hS => ?_)
  obtain ⟨hP, hD⟩ := va_join (wr := []) (w1 := []) hP hD [0, 1] [] rfl rfl (by decide) (by decide) hk1 hFc nilP nilD
  clear hPc hDc hKc hFc
  generalize H1 = H at hP hS ⊢
  have hP : va_P (dC, dI) vwCl [] H := hP
  have hD : va_D (fun q : Nat => s.heap.size ≤ q) [] := hD
  have hw : r_22 = (-2) := hw
  subst hw
  refine lv_icmp_eq (tgt := 1677) hx hb dL_law_1130 (by decide) (fun c_23 => ?_) (fun c_23 => absurd (by decide) c_23)
  exact law_tail C0 hS (lv_sub hl [0, 3] rfl)

set_option maxHeartbeats 4000000 in
set_option maxRecDepth 100000 in
theorem law_hold {p : Program} {l : Launch} {e : Env} {s : State} {m : MethodId} {below : List Frame} {meth : Method} {c : Code} {dC : Nat → ClassId} {dI : Nat → Nat → Nat} {b : Nat} {xs : Nat → Int32} {H : Heap} {locs : List Loc} {ls : Array Slot} {x_tape : Nat} {x_reader : Nat} {x_current : Nat} {x_images : Nat} {x_kept : Nat} {x_slots : Nat} {x_diary : Nat} {x_base : Nat} {x_trial : Nat} {x_plan : Nat} {x_orders : Nat} {x_unanswered : Nat} {t0 : Nat} {t1 : Nat} {t2 : Nat} {t3 : Nat} {t4 : Nat} {t5 : Nat} {t6 : Nat} {t7 : Nat} {t8 : Nat} {t9 : Nat} {m_width : Nat} {m_many : Nat} {m_cells : Nat} {m_moved : Nat} {m_tape : Nat} {m_lines : Nat} {m_has : Nat} {m_person : Nat} {m_letter : Nat} {m_isKept : Nat} {m_more : Nat} {m_came : Nat} {m_answered : Nat} {m_left : Nat} {m_leftOn : Nat} {m_isBurnt : Nat} {m_heard : Nat} {m_waitsOn : Nat} {m_idleOn : Nat} {m_row : Nat} {m_key : Nat} {m_coming : Nat} {m_tried : Nat} {m_bestOrder : Nat} {m_before : Nat} {m_open : Nat} {mk_has : ClassId} {xq : Nat} {mq : Nat} (C0 : lw_At p s m meth c b 6 xs)  (hK : va_K (dC, dI) vwCl [(mk_has, .int)] s) (hP : va_P (dC, dI) vwCl [(xq, .inr (8, [.ref x_tape, .ref x_reader, .ref x_current, .ref x_images, .ref x_kept, .ref x_slots, .ref x_diary, .ref x_base, .ref x_trial, .ref x_plan, .ref x_orders, .ref x_unanswered, .int 0, .int 0, .int (-1)])), (x_current, .inr (7, [.int 0, .int 0, .int 0, .int 0, .int 0, .int 0, .int 0, .int 0, .ref t0, .ref t1, .ref t2, .ref t3, .ref t4, .ref t5, .ref t6, .ref t7, .ref t8, .ref t9])), (mq, .inr (9, [.int 0, .ref m_width, .ref m_many, .ref m_cells, .ref m_moved, .ref m_tape, .int 0, .int 0, .int 0, .int 0, .int 0, .long 0, .int 0, .int 0, .int 0, .int (-1), .ref m_lines, .ref m_has, .ref m_person, .ref m_letter, .int 0, .ref m_isKept, .ref m_more, .int 0, .ref m_came, .ref m_answered, .ref m_left, .ref m_leftOn, .ref m_isBurnt, .ref m_heard, .ref m_waitsOn, .ref m_idleOn, .ref m_row, .int 0, .int 0, .long 0, .ref m_key, .int 0, .int 0, .int 0, .int 0, .int 0, .int 0, .int 0, .int 0, .ref m_coming, .int 0, .ref m_tried, .ref m_bestOrder, .int 0, .int 0, .ref m_before, .int 0, .ref m_open])), (m_has, .inl (mk_has, 30, .inl (fun _ => 0)))] H) (hD : va_D (fun q : Nat => s.heap.size ≤ q) [(xq, .inr (8, [.ref x_tape, .ref x_reader, .ref x_current, .ref x_images, .ref x_kept, .ref x_slots, .ref x_diary, .ref x_base, .ref x_trial, .ref x_plan, .ref x_orders, .ref x_unanswered, .int 0, .int 0, .int (-1)])), (x_current, .inr (7, [.int 0, .int 0, .int 0, .int 0, .int 0, .int 0, .int 0, .int 0, .ref t0, .ref t1, .ref t2, .ref t3, .ref t4, .ref t5, .ref t6, .ref t7, .ref t8, .ref t9])), (mq, .inr (9, [.int 0, .ref m_width, .ref m_many, .ref m_cells, .ref m_moved, .ref m_tape, .int 0, .int 0, .int 0, .int 0, .int 0, .long 0, .int 0, .int 0, .int 0, .int (-1), .ref m_lines, .ref m_has, .ref m_person, .ref m_letter, .int 0, .ref m_isKept, .ref m_more, .int 0, .ref m_came, .ref m_answered, .ref m_left, .ref m_leftOn, .ref m_isBurnt, .ref m_heard, .ref m_waitsOn, .ref m_idleOn, .ref m_row, .int 0, .int 0, .long 0, .ref m_key, .int 0, .int 0, .int 0, .int 0, .int 0, .int 0, .int 0, .int 0, .ref m_coming, .int 0, .ref m_tried, .ref m_bestOrder, .int 0, .int 0, .ref m_before, .int 0, .ref m_open])), (m_has, .inl (mk_has, 30, .inl (fun _ => 0)))]) (hS : va_S (fun q : Nat => s.heap.size ≤ q) s.heap H locs) (hl : lv_has ls 4 [(3, .int 0), (2, .ref mq), (1, .ref xq), (0, .ref b)]) : W p l e room_1 s m #[Value.ref b] below meth c H locs 144 16687 (lw_Z below #[Value.ref b] s) (F0 m 1135 ls []) := by
  obtain ⟨hx, hb, hr, hml, hown, hts0, hX, hbl, hlocks, hgv⟩ := id C0
  have hts : ∀ w ∈ ALLW, w.before #[Value.ref b] s = true := fun w h => hts0 w (inT w h)
  have hA : ∀ q : Nat, s.heap.size ≤ q → (fun q : Nat => s.heap.size ≤ q) q := fun _ h => h
  have hbA : ¬ (fun q : Nat => s.heap.size ≤ q) b := Nat.not_le.mpr hbl
  refine lv_aload_n hx hb dL_law_1135 rfl (lv_at hl 2 rfl) ?_
  refine lv_aload_n hx hb dL_law_1136 rfl (lv_at hl 3 rfl) ?_
  refine lv_iload_n hx hb dL_law_1137 rfl (lv_at hl 0 rfl) ?_
  refine lv_iconst (v := 1) hx hb dL_law_1138 (by decide) ?_
  refine lv_iadd hx hb dL_law_1139 ?_
  refine lv_topi (fun x_1 ex_1 => ?_)
  obtain rfl : x_1 = 1 := ex_1.trans (by decide +kernel)
  refine va_sld hx hb hX hbl hbA hS (show vp_in 1 6 from (by unfold vp_in; decide)) dL_law_1140 ?_
  refine lv_topi (fun x_2 ex_2 => ?_)
  obtain rfl : x_2 = xs 1 := ex_2.trans (congrArg xs (by decide))
  refine lv_aload_n hx hb dL_law_1141 rfl (lv_at hl 3 rfl) ?_
  refine lv_iload_n hx hb dL_law_1142 rfl (lv_at hl 0 rfl) ?_
  refine lv_iconst (v := 2) hx hb dL_law_1143 (by decide) ?_
  refine lv_iadd hx hb dL_law_1144 ?_
  refine lv_topi (fun x_3 ex_3 => ?_)
  obtain rfl : x_3 = 2 := ex_3.trans (by decide +kernel)
  refine va_sld hx hb hX hbl hbA hS (show vp_in 2 6 from (by unfold vp_in; decide)) dL_law_1145 ?_
  refine lv_topi (fun x_4 ex_4 => ?_)
  obtain rfl : x_4 = xs 2 := ex_4.trans (congrArg xs (by decide))
  refine lv_aload_n hx hb dL_law_1146 rfl (lv_at hl 3 rfl) ?_
  refine lv_iload_n hx hb dL_law_1147 rfl (lv_at hl 0 rfl) ?_
  refine lv_iconst (v := 3) hx hb dL_law_1148 (by decide) ?_
  refine lv_iadd hx hb dL_law_1149 ?_
  refine lv_topi (fun x_5 ex_5 => ?_)
  obtain rfl : x_5 = 3 := ex_5.trans (by decide +kernel)
  refine va_sld hx hb hX hbl hbA hS (show vp_in 3 6 from (by unfold vp_in; decide)) dL_law_1150 ?_
  refine lv_topi (fun x_6 ex_6 => ?_)
  obtain rfl : x_6 = xs 3 := ex_6.trans (congrArg xs (by decide))
  refine lv_aload_n hx hb dL_law_1151 rfl (lv_at hl 3 rfl) ?_
  refine lv_iload_n hx hb dL_law_1152 rfl (lv_at hl 0 rfl) ?_
  refine lv_iconst (v := 4) hx hb dL_law_1153 (by decide) ?_
  refine lv_iadd hx hb dL_law_1154 ?_
  refine lv_topi (fun x_7 ex_7 => ?_)
  obtain rfl : x_7 = 4 := ex_7.trans (by decide +kernel)
  refine va_sld hx hb hX hbl hbA hS (show vp_in 4 6 from (by unfold vp_in; decide)) dL_law_1155 ?_
  refine lv_topi (fun x_8 ex_8 => ?_)
  obtain rfl : x_8 = xs 4 := ex_8.trans (congrArg xs (by decide))
  refine lv_aload_n hx hb dL_law_1156 rfl (lv_at hl 3 rfl) ?_
  refine lv_iload_n hx hb dL_law_1157 rfl (lv_at hl 0 rfl) ?_
  refine lv_iconst (v := 5) hx hb dL_law_1158 (by decide) ?_
  refine lv_iadd hx hb dL_law_1159 ?_
  refine lv_topi (fun x_9 ex_9 => ?_)
  obtain rfl : x_9 = 5 := ex_9.trans (by decide +kernel)
  refine va_sld hx hb hX hbl hbA hS (show vp_in 5 6 from (by unfold vp_in; decide)) dL_law_1160 ?_
  refine lv_topi (fun x_10 ex_10 => ?_)
  obtain rfl : x_10 = xs 5 := ex_10.trans (congrArg xs (by decide))
  have hPc := hP.sub (ws' := [(xq, .inr (8, [.ref x_tape, .ref x_reader, .ref x_current, .ref x_images, .ref x_kept, .ref x_slots, .ref x_diary, .ref x_base, .ref x_trial, .ref x_plan, .ref x_orders, .ref x_unanswered, .int 0, .int 0, .int (-1)])), (x_current, .inr (7, [.int 0, .int 0, .int 0, .int 0, .int 0, .int 0, .int 0, .int 0, .ref t0, .ref t1, .ref t2, .ref t3, .ref t4, .ref t5, .ref t6, .ref t7, .ref t8, .ref t9]))]) [0, 1] rfl
  have hDc := hD.sub (ws' := [(xq, .inr (8, [.ref x_tape, .ref x_reader, .ref x_current, .ref x_images, .ref x_kept, .ref x_slots, .ref x_diary, .ref x_base, .ref x_trial, .ref x_plan, .ref x_orders, .ref x_unanswered, .int 0, .int 0, .int (-1)])), (x_current, .inr (7, [.int 0, .int 0, .int 0, .int 0, .int 0, .int 0, .int 0, .int 0, .ref t0, .ref t1, .ref t2, .ref t3, .ref t4, .ref t5, .ref t6, .ref t7, .ref t8, .ref t9]))]) [0, 1] (by decide) rfl
  have hKc := hK.sub (tys' := []) [] rfl
  have hFc := va_free (wc := [(xq, .inr (8, [.ref x_tape, .ref x_reader, .ref x_current, .ref x_images, .ref x_kept, .ref x_slots, .ref x_diary, .ref x_base, .ref x_trial, .ref x_plan, .ref x_orders, .ref x_unanswered, .int 0, .int 0, .int (-1)])), (x_current, .inr (7, [.int 0, .int 0, .int 0, .int 0, .int 0, .int 0, .int 0, .int 0, .ref t0, .ref t1, .ref t2, .ref t3, .ref t4, .ref t5, .ref t6, .ref t7, .ref t8, .ref t9]))]) hD hS hA [0, 1] rfl
  refine va_calli (va_runV (As := [.int (xs 1), .int (xs 2), .int (xs 3), .int (xs 4), .int (xs 5)]) (rest := []) ⟨hx, hb, hml, hown, hts⟩ (x_hold l dC dI H.size xq x_tape x_reader x_current x_images x_kept x_slots x_diary x_base x_trial x_plan x_orders x_unanswered t0 t1 t2 t3 t4 t5 t6 t7 t8 t9 ((xs 1)) ((xs 2)) ((xs 3)) ((xs 4)) ((xs 5)) ) (cwV 5 hts (goodV w_1182 w_1183 w_1184 w_2 w_1185) rfl rfl rfl hdV_X8_hold ⟨Nat.le_of_ble_eq_true rfl, Nat.le_of_ble_eq_true rfl⟩) ⟨fun a U g mk q => by obtain ⟨q0, q1, qP, qK, qD⟩ := q; exact ⟨q0, q1, qP, va_K.moved (u := U) (U := U.calling g mk a) (Vm.Alike.refl U.vm) qK, qD⟩, va_recv hKc hPc (ci := 8) (q0 := 0) rfl rfl, fun U hU hW => ⟨rfl, by rw [hU], by rw [hU]; exact hPc, va_K.moved hW.alike hKc, hDc.weaken (fun _ _ _ _ => trivial)⟩⟩ rfl rfl hl.1 rfl (lv_room (Nat.le_of_ble_eq_true rfl)) dL_law_1161 ⟨Nat.le_of_ble_eq_true rfl, Nat.le_of_ble_eq_true rfl⟩) hS (fun q _ h => hFc q h) hFc (fun r_11 u t H1 locs ht hvm hw hB hz1 hk1 hS => ?_)
  obtain ⟨hP, hD⟩ := va_join (wr := [(mq, .inr (9, [.int 0, .ref m_width, .ref m_many, .ref m_cells, .ref m_moved, .ref m_tape, .int 0, .int 0, .int 0, .int 0, .int 0, .long 0, .int 0, .int 0, .int 0, .int (-1), .ref m_lines, .ref m_has, .ref m_person, .ref m_letter, .int 0, .ref m_isKept, .ref m_more, .int 0, .ref m_came, .ref m_answered, .ref m_left, .ref m_leftOn, .ref m_isBurnt, .ref m_heard, .ref m_waitsOn, .ref m_idleOn, .ref m_row, .int 0, .int 0, .long 0, .ref m_key, .int 0, .int 0, .int 0, .int 0, .int 0, .int 0, .int 0, .int 0, .ref m_coming, .int 0, .ref m_tried, .ref m_bestOrder, .int 0, .int 0, .ref m_before, .int 0, .ref m_open])), (m_has, .inl (mk_has, 30, .inl (fun _ => 0)))]) (w1 := []) hP hD [0, 1] [2, 3] rfl rfl (by decide) (by decide) hk1 hFc nilP nilD
  clear hPc hDc hKc hFc
  generalize H1 = H at hP hS ⊢
  have hP : va_P (dC, dI) vwCl [(mq, .inr (9, [.int 0, .ref m_width, .ref m_many, .ref m_cells, .ref m_moved, .ref m_tape, .int 0, .int 0, .int 0, .int 0, .int 0, .long 0, .int 0, .int 0, .int 0, .int (-1), .ref m_lines, .ref m_has, .ref m_person, .ref m_letter, .int 0, .ref m_isKept, .ref m_more, .int 0, .ref m_came, .ref m_answered, .ref m_left, .ref m_leftOn, .ref m_isBurnt, .ref m_heard, .ref m_waitsOn, .ref m_idleOn, .ref m_row, .int 0, .int 0, .long 0, .ref m_key, .int 0, .int 0, .int 0, .int 0, .int 0, .int 0, .int 0, .int 0, .ref m_coming, .int 0, .ref m_tried, .ref m_bestOrder, .int 0, .int 0, .ref m_before, .int 0, .ref m_open])), (m_has, .inl (mk_has, 30, .inl (fun _ => 0)))] H := hP
  have hD : va_D (fun q : Nat => s.heap.size ≤ q) [(mq, .inr (9, [.int 0, .ref m_width, .ref m_many, .ref m_cells, .ref m_moved, .ref m_tape, .int 0, .int 0, .int 0, .int 0, .int 0, .long 0, .int 0, .int 0, .int 0, .int (-1), .ref m_lines, .ref m_has, .ref m_person, .ref m_letter, .int 0, .ref m_isKept, .ref m_more, .int 0, .ref m_came, .ref m_answered, .ref m_left, .ref m_leftOn, .ref m_isBurnt, .ref m_heard, .ref m_waitsOn, .ref m_idleOn, .ref m_row, .int 0, .int 0, .long 0, .ref m_key, .int 0, .int 0, .int 0, .int 0, .int 0, .int 0, .int 0, .int 0, .ref m_coming, .int 0, .ref m_tried, .ref m_bestOrder, .int 0, .int 0, .ref m_before, .int 0, .ref m_open])), (m_has, .inl (mk_has, 30, .inl (fun _ => 0)))] := hD
  have hw : r_11 = (-2) := hw
  subst hw
  refine lv_aload_n hx hb dL_law_1164 rfl (lv_at hl 1 rfl) ?_
  refine lv_aload_n hx hb dL_law_1165 rfl (lv_at hl 3 rfl) ?_
  refine lv_iload_n hx hb dL_law_1166 rfl (lv_at hl 0 rfl) ?_
  refine lv_iconst (v := 1) hx hb dL_law_1167 (by decide) ?_
  refine lv_iadd hx hb dL_law_1168 ?_
  refine lv_topi (fun x_12 ex_12 => ?_)
  obtain rfl : x_12 = 1 := ex_12.trans (by decide +kernel)
  refine va_sld hx hb hX hbl hbA hS (show vp_in 1 6 from (by unfold vp_in; decide)) dL_law_1169 ?_
  refine lv_topi (fun x_13 ex_13 => ?_)
  obtain rfl : x_13 = xs 1 := ex_13.trans (congrArg xs (by decide))
  refine lv_aload_n hx hb dL_law_1170 rfl (lv_at hl 3 rfl) ?_
  refine lv_iload_n hx hb dL_law_1171 rfl (lv_at hl 0 rfl) ?_
  refine lv_iconst (v := 2) hx hb dL_law_1172 (by decide) ?_
  refine lv_iadd hx hb dL_law_1173 ?_
  refine lv_topi (fun x_14 ex_14 => ?_)
  obtain rfl : x_14 = 2 := ex_14.trans (by decide +kernel)
  refine va_sld hx hb hX hbl hbA hS (show vp_in 2 6 from (by unfold vp_in; decide)) dL_law_1174 ?_
  refine lv_topi (fun x_15 ex_15 => ?_)
  obtain rfl : x_15 = xs 2 := ex_15.trans (congrArg xs (by decide))
  refine lv_aload_n hx hb dL_law_1175 rfl (lv_at hl 3 rfl) ?_
  refine lv_iload_n hx hb dL_law_1176 rfl (lv_at hl 0 rfl) ?_
  refine lv_iconst (v := 3) hx hb dL_law_1177 (by decide) ?_
  refine lv_iadd hx hb dL_law_1178 ?_
  refine lv_topi (fun x_16 ex_16 => ?_)
  obtain rfl : x_16 = 3 := ex_16.trans (by decide +kernel)
  refine va_sld hx hb hX hbl hbA hS (show vp_in 3 6 from (by unfold vp_in; decide)) dL_law_1179 ?_
  refine lv_topi (fun x_17 ex_17 => ?_)
  obtain rfl : x_17 = xs 3 := ex_17.trans (congrArg xs (by decide))
  refine lv_aload_n hx hb dL_law_1180 rfl (lv_at hl 3 rfl) ?_
  refine lv_iload_n hx hb dL_law_1181 rfl (lv_at hl 0 rfl) ?_
  refine lv_iconst (v := 4) hx hb dL_law_1182 (by decide) ?_
  refine lv_iadd hx hb dL_law_1183 ?_
  refine lv_topi (fun x_18 ex_18 => ?_)
  obtain rfl : x_18 = 4 := ex_18.trans (by decide +kernel)
  refine va_sld hx hb hX hbl hbA hS (show vp_in 4 6 from (by unfold vp_in; decide)) dL_law_1184 ?_
  refine lv_topi (fun x_19 ex_19 => ?_)
  obtain rfl : x_19 = xs 4 := ex_19.trans (congrArg xs (by decide))
  refine lv_aload_n hx hb dL_law_1185 rfl (lv_at hl 3 rfl) ?_
  refine lv_iload_n hx hb dL_law_1186 rfl (lv_at hl 0 rfl) ?_
  refine lv_iconst (v := 5) hx hb dL_law_1187 (by decide) ?_
  refine lv_iadd hx hb dL_law_1188 ?_
  refine lv_topi (fun x_20 ex_20 => ?_)
  obtain rfl : x_20 = 5 := ex_20.trans (by decide +kernel)
  refine va_sld hx hb hX hbl hbA hS (show vp_in 5 6 from (by unfold vp_in; decide)) dL_law_1189 ?_
  refine lv_topi (fun x_21 ex_21 => ?_)
  obtain rfl : x_21 = xs 5 := ex_21.trans (congrArg xs (by decide))
  have hPc := hP.sub (ws' := [(mq, .inr (9, [.int 0, .ref m_width, .ref m_many, .ref m_cells, .ref m_moved, .ref m_tape, .int 0, .int 0, .int 0, .int 0, .int 0, .long 0, .int 0, .int 0, .int 0, .int (-1), .ref m_lines, .ref m_has, .ref m_person, .ref m_letter, .int 0, .ref m_isKept, .ref m_more, .int 0, .ref m_came, .ref m_answered, .ref m_left, .ref m_leftOn, .ref m_isBurnt, .ref m_heard, .ref m_waitsOn, .ref m_idleOn, .ref m_row, .int 0, .int 0, .long 0, .ref m_key, .int 0, .int 0, .int 0, .int 0, .int 0, .int 0, .int 0, .int 0, .ref m_coming, .int 0, .ref m_tried, .ref m_bestOrder, .int 0, .int 0, .ref m_before, .int 0, .ref m_open])), (m_has, .inl (mk_has, 30, .inl (fun _ => 0)))]) [0, 1] rfl
  have hDc := hD.sub (ws' := [(mq, .inr (9, [.int 0, .ref m_width, .ref m_many, .ref m_cells, .ref m_moved, .ref m_tape, .int 0, .int 0, .int 0, .int 0, .int 0, .long 0, .int 0, .int 0, .int 0, .int (-1), .ref m_lines, .ref m_has, .ref m_person, .ref m_letter, .int 0, .ref m_isKept, .ref m_more, .int 0, .ref m_came, .ref m_answered, .ref m_left, .ref m_leftOn, .ref m_isBurnt, .ref m_heard, .ref m_waitsOn, .ref m_idleOn, .ref m_row, .int 0, .int 0, .long 0, .ref m_key, .int 0, .int 0, .int 0, .int 0, .int 0, .int 0, .int 0, .int 0, .ref m_coming, .int 0, .ref m_tried, .ref m_bestOrder, .int 0, .int 0, .ref m_before, .int 0, .ref m_open])), (m_has, .inl (mk_has, 30, .inl (fun _ => 0)))]) [0, 1] (by decide) rfl
  have hKc := hK.sub (tys' := [(mk_has, .int)]) [0] rfl
  have hFc := va_free (wc := [(mq, .inr (9, [.int 0, .ref m_width, .ref m_many, .ref m_cells, .ref m_moved, .ref m_tape, .int 0, .int 0, .int 0, .int 0, .int 0, .long 0, .int 0, .int 0, .int 0, .int (-1), .ref m_lines, .ref m_has, .ref m_person, .ref m_letter, .int 0, .ref m_isKept, .ref m_more, .int 0, .ref m_came, .ref m_answered, .ref m_left, .ref m_leftOn, .ref m_isBurnt, .ref m_heard, .ref m_waitsOn, .ref m_idleOn, .ref m_row, .int 0, .int 0, .long 0, .ref m_key, .int 0, .int 0, .int 0, .int 0, .int 0, .int 0, .int 0, .int 0, .ref m_coming, .int 0, .ref m_tried, .ref m_bestOrder, .int 0, .int 0, .ref m_before, .int 0, .ref m_open])), (m_has, .inl (mk_has, 30, .inl (fun _ => 0)))]) hD hS hA [0, 1] rfl
  refine va_calli (va_runV (As := [.int (xs 1), .int (xs 2), .int (xs 3), .int (xs 4), .int (xs 5)]) (rest := [.int (-2)]) ⟨hx, hb, hml, hown, hts⟩ (mc_hold l dC dI H.size mq m_width m_many m_cells m_moved m_tape m_lines m_has m_person m_letter m_isKept m_more m_came m_answered m_left m_leftOn m_isBurnt m_heard m_waitsOn m_idleOn m_row m_key m_coming m_tried m_bestOrder m_before m_open mk_has ((xs 1)) ((xs 2)) ((xs 3)) ((xs 4)) ((xs 5)) ) (cwV 5 hts (goodV w_1186 w_1187 w_1188 w_5 w_1189) rfl rfl rfl hdV_X9_hold ⟨Nat.le_of_ble_eq_true rfl, Nat.le_of_ble_eq_true rfl⟩) ⟨fun a U g mk q => by obtain ⟨q0, q1, qP, qK, qD⟩ := q; exact ⟨q0, q1, qP, va_K.moved (u := U) (U := U.calling g mk a) (Vm.Alike.refl U.vm) qK, qD⟩, va_recv hKc hPc (ci := 9) (q0 := 0) rfl rfl, fun U hU hW => ⟨rfl, by rw [hU], by rw [hU]; exact hPc, va_K.moved hW.alike hKc, hDc.weaken (fun _ _ _ _ => trivial)⟩⟩ rfl rfl hl.1 rfl (lv_room (Nat.le_of_ble_eq_true rfl)) dL_law_1190 ⟨Nat.le_of_ble_eq_true rfl, Nat.le_of_ble_eq_true rfl⟩) hS (fun q _ h => hFc q h) hFc (fun r_22 u t H1 locs ht hvm hw hB hz1 hk1 hS => ?_)
  obtain ⟨hP, hD⟩ := va_join (wr := []) (w1 := []) hP hD [0, 1] [] rfl rfl (by decide) (by decide) hk1 hFc nilP nilD
  clear hPc hDc hKc hFc
  generalize H1 = H at hP hS ⊢
  have hP : va_P (dC, dI) vwCl [] H := hP
  have hD : va_D (fun q : Nat => s.heap.size ≤ q) [] := hD
  have hw : r_22 = (-2) := hw
  subst hw
  refine lv_icmp_eq (tgt := 1677) hx hb dL_law_1193 (by decide) (fun c_23 => ?_) (fun c_23 => absurd (by decide) c_23)
  exact law_tail C0 hS (lv_sub hl [0, 3] rfl)

set_option maxHeartbeats 4000000 in
set_option maxRecDepth 100000 in
theorem law_visit {p : Program} {l : Launch} {e : Env} {s : State} {m : MethodId} {below : List Frame} {meth : Method} {c : Code} {dC : Nat → ClassId} {dI : Nat → Nat → Nat} {b : Nat} {xs : Nat → Int32} {H : Heap} {locs : List Loc} {ls : Array Slot} {x_tape : Nat} {x_reader : Nat} {x_current : Nat} {x_images : Nat} {x_kept : Nat} {x_slots : Nat} {x_diary : Nat} {x_base : Nat} {x_trial : Nat} {x_plan : Nat} {x_orders : Nat} {x_unanswered : Nat} {t0 : Nat} {t1 : Nat} {t2 : Nat} {t3 : Nat} {t4 : Nat} {t5 : Nat} {t6 : Nat} {t7 : Nat} {t8 : Nat} {t9 : Nat} {m_width : Nat} {m_many : Nat} {m_cells : Nat} {m_moved : Nat} {m_tape : Nat} {m_lines : Nat} {m_has : Nat} {m_person : Nat} {m_letter : Nat} {m_isKept : Nat} {m_more : Nat} {m_came : Nat} {m_answered : Nat} {m_left : Nat} {m_leftOn : Nat} {m_isBurnt : Nat} {m_heard : Nat} {m_waitsOn : Nat} {m_idleOn : Nat} {m_row : Nat} {m_key : Nat} {m_coming : Nat} {m_tried : Nat} {m_bestOrder : Nat} {m_before : Nat} {m_open : Nat} {mk_has : ClassId} {xq : Nat} {mq : Nat} (C0 : lw_At p s m meth c b 6 xs)  (hK : va_K (dC, dI) vwCl [(mk_has, .int)] s) (hP : va_P (dC, dI) vwCl [(xq, .inr (8, [.ref x_tape, .ref x_reader, .ref x_current, .ref x_images, .ref x_kept, .ref x_slots, .ref x_diary, .ref x_base, .ref x_trial, .ref x_plan, .ref x_orders, .ref x_unanswered, .int 0, .int 0, .int (-1)])), (x_current, .inr (7, [.int 0, .int 0, .int 0, .int 0, .int 0, .int 0, .int 0, .int 0, .ref t0, .ref t1, .ref t2, .ref t3, .ref t4, .ref t5, .ref t6, .ref t7, .ref t8, .ref t9])), (mq, .inr (9, [.int 0, .ref m_width, .ref m_many, .ref m_cells, .ref m_moved, .ref m_tape, .int 0, .int 0, .int 0, .int 0, .int 0, .long 0, .int 0, .int 0, .int 0, .int (-1), .ref m_lines, .ref m_has, .ref m_person, .ref m_letter, .int 0, .ref m_isKept, .ref m_more, .int 0, .ref m_came, .ref m_answered, .ref m_left, .ref m_leftOn, .ref m_isBurnt, .ref m_heard, .ref m_waitsOn, .ref m_idleOn, .ref m_row, .int 0, .int 0, .long 0, .ref m_key, .int 0, .int 0, .int 0, .int 0, .int 0, .int 0, .int 0, .int 0, .ref m_coming, .int 0, .ref m_tried, .ref m_bestOrder, .int 0, .int 0, .ref m_before, .int 0, .ref m_open])), (m_has, .inl (mk_has, 30, .inl (fun _ => 0)))] H) (hD : va_D (fun q : Nat => s.heap.size ≤ q) [(xq, .inr (8, [.ref x_tape, .ref x_reader, .ref x_current, .ref x_images, .ref x_kept, .ref x_slots, .ref x_diary, .ref x_base, .ref x_trial, .ref x_plan, .ref x_orders, .ref x_unanswered, .int 0, .int 0, .int (-1)])), (x_current, .inr (7, [.int 0, .int 0, .int 0, .int 0, .int 0, .int 0, .int 0, .int 0, .ref t0, .ref t1, .ref t2, .ref t3, .ref t4, .ref t5, .ref t6, .ref t7, .ref t8, .ref t9])), (mq, .inr (9, [.int 0, .ref m_width, .ref m_many, .ref m_cells, .ref m_moved, .ref m_tape, .int 0, .int 0, .int 0, .int 0, .int 0, .long 0, .int 0, .int 0, .int 0, .int (-1), .ref m_lines, .ref m_has, .ref m_person, .ref m_letter, .int 0, .ref m_isKept, .ref m_more, .int 0, .ref m_came, .ref m_answered, .ref m_left, .ref m_leftOn, .ref m_isBurnt, .ref m_heard, .ref m_waitsOn, .ref m_idleOn, .ref m_row, .int 0, .int 0, .long 0, .ref m_key, .int 0, .int 0, .int 0, .int 0, .int 0, .int 0, .int 0, .int 0, .ref m_coming, .int 0, .ref m_tried, .ref m_bestOrder, .int 0, .int 0, .ref m_before, .int 0, .ref m_open])), (m_has, .inl (mk_has, 30, .inl (fun _ => 0)))]) (hS : va_S (fun q : Nat => s.heap.size ≤ q) s.heap H locs) (hl : lv_has ls 4 [(3, .int 0), (2, .ref mq), (1, .ref xq), (0, .ref b)]) : W p l e room_1 s m #[Value.ref b] below meth c H locs 144 16687 (lw_Z below #[Value.ref b] s) (F0 m 1198 ls []) := by
  obtain ⟨hx, hb, hr, hml, hown, hts0, hX, hbl, hlocks, hgv⟩ := id C0
  have hts : ∀ w ∈ ALLW, w.before #[Value.ref b] s = true := fun w h => hts0 w (inT w h)
  have hA : ∀ q : Nat, s.heap.size ≤ q → (fun q : Nat => s.heap.size ≤ q) q := fun _ h => h
  have hbA : ¬ (fun q : Nat => s.heap.size ≤ q) b := Nat.not_le.mpr hbl
  refine lv_aload_n hx hb dL_law_1198 rfl (lv_at hl 2 rfl) ?_
  refine lv_aload_n hx hb dL_law_1199 rfl (lv_at hl 3 rfl) ?_
  refine lv_iload_n hx hb dL_law_1200 rfl (lv_at hl 0 rfl) ?_
  refine lv_iconst (v := 1) hx hb dL_law_1201 (by decide) ?_
  refine lv_iadd hx hb dL_law_1202 ?_
  refine lv_topi (fun x_1 ex_1 => ?_)
  obtain rfl : x_1 = 1 := ex_1.trans (by decide +kernel)
  refine va_sld hx hb hX hbl hbA hS (show vp_in 1 6 from (by unfold vp_in; decide)) dL_law_1203 ?_
  refine lv_topi (fun x_2 ex_2 => ?_)
  obtain rfl : x_2 = xs 1 := ex_2.trans (congrArg xs (by decide))
  refine lv_aload_n hx hb dL_law_1204 rfl (lv_at hl 3 rfl) ?_
  refine lv_iload_n hx hb dL_law_1205 rfl (lv_at hl 0 rfl) ?_
  refine lv_iconst (v := 2) hx hb dL_law_1206 (by decide) ?_
  refine lv_iadd hx hb dL_law_1207 ?_
  refine lv_topi (fun x_3 ex_3 => ?_)
  obtain rfl : x_3 = 2 := ex_3.trans (by decide +kernel)
  refine va_sld hx hb hX hbl hbA hS (show vp_in 2 6 from (by unfold vp_in; decide)) dL_law_1208 ?_
  refine lv_topi (fun x_4 ex_4 => ?_)
  obtain rfl : x_4 = xs 2 := ex_4.trans (congrArg xs (by decide))
  refine lv_aload_n hx hb dL_law_1209 rfl (lv_at hl 3 rfl) ?_
  refine lv_iload_n hx hb dL_law_1210 rfl (lv_at hl 0 rfl) ?_
  refine lv_iconst (v := 3) hx hb dL_law_1211 (by decide) ?_
  refine lv_iadd hx hb dL_law_1212 ?_
  refine lv_topi (fun x_5 ex_5 => ?_)
  obtain rfl : x_5 = 3 := ex_5.trans (by decide +kernel)
  refine va_sld hx hb hX hbl hbA hS (show vp_in 3 6 from (by unfold vp_in; decide)) dL_law_1213 ?_
  refine lv_topi (fun x_6 ex_6 => ?_)
  obtain rfl : x_6 = xs 3 := ex_6.trans (congrArg xs (by decide))
  have hPc := hP.sub (ws' := [(xq, .inr (8, [.ref x_tape, .ref x_reader, .ref x_current, .ref x_images, .ref x_kept, .ref x_slots, .ref x_diary, .ref x_base, .ref x_trial, .ref x_plan, .ref x_orders, .ref x_unanswered, .int 0, .int 0, .int (-1)])), (x_current, .inr (7, [.int 0, .int 0, .int 0, .int 0, .int 0, .int 0, .int 0, .int 0, .ref t0, .ref t1, .ref t2, .ref t3, .ref t4, .ref t5, .ref t6, .ref t7, .ref t8, .ref t9]))]) [0, 1] rfl
  have hDc := hD.sub (ws' := [(xq, .inr (8, [.ref x_tape, .ref x_reader, .ref x_current, .ref x_images, .ref x_kept, .ref x_slots, .ref x_diary, .ref x_base, .ref x_trial, .ref x_plan, .ref x_orders, .ref x_unanswered, .int 0, .int 0, .int (-1)])), (x_current, .inr (7, [.int 0, .int 0, .int 0, .int 0, .int 0, .int 0, .int 0, .int 0, .ref t0, .ref t1, .ref t2, .ref t3, .ref t4, .ref t5, .ref t6, .ref t7, .ref t8, .ref t9]))]) [0, 1] (by decide) rfl
  have hKc := hK.sub (tys' := []) [] rfl
  have hFc := va_free (wc := [(xq, .inr (8, [.ref x_tape, .ref x_reader, .ref x_current, .ref x_images, .ref x_kept, .ref x_slots, .ref x_diary, .ref x_base, .ref x_trial, .ref x_plan, .ref x_orders, .ref x_unanswered, .int 0, .int 0, .int (-1)])), (x_current, .inr (7, [.int 0, .int 0, .int 0, .int 0, .int 0, .int 0, .int 0, .int 0, .ref t0, .ref t1, .ref t2, .ref t3, .ref t4, .ref t5, .ref t6, .ref t7, .ref t8, .ref t9]))]) hD hS hA [0, 1] rfl
  refine va_calli (va_runV (As := [.int (xs 1), .int (xs 2), .int (xs 3)]) (rest := []) ⟨hx, hb, hml, hown, hts⟩ (x_visit l dC dI H.size xq x_tape x_reader x_current x_images x_kept x_slots x_diary x_base x_trial x_plan x_orders x_unanswered t0 t1 t2 t3 t4 t5 t6 t7 t8 t9 ((xs 1)) ((xs 2)) ((xs 3)) ) (cwV 3 hts (goodV w_1190 w_1191 w_1192 w_2 w_1193) rfl rfl rfl hdV_X8_visit ⟨Nat.le_of_ble_eq_true rfl, Nat.le_of_ble_eq_true rfl⟩) ⟨fun a U g mk q => by obtain ⟨q0, q1, qP, qK, qD⟩ := q; exact ⟨q0, q1, qP, va_K.moved (u := U) (U := U.calling g mk a) (Vm.Alike.refl U.vm) qK, qD⟩, va_recv hKc hPc (ci := 8) (q0 := 0) rfl rfl, fun U hU hW => ⟨rfl, by rw [hU], by rw [hU]; exact hPc, va_K.moved hW.alike hKc, hDc.weaken (fun _ _ _ _ => trivial)⟩⟩ rfl rfl hl.1 rfl (lv_room (Nat.le_of_ble_eq_true rfl)) dL_law_1214 ⟨Nat.le_of_ble_eq_true rfl, Nat.le_of_ble_eq_true rfl⟩) hS (fun q _ h => hFc q h) hFc (fun r_7 u t H1 locs ht hvm hw hB hz1 hk1 hS => ?_)
  obtain ⟨hP, hD⟩ := va_join (wr := [(mq, .inr (9, [.int 0, .ref m_width, .ref m_many, .ref m_cells, .ref m_moved, .ref m_tape, .int 0, .int 0, .int 0, .int 0, .int 0, .long 0, .int 0, .int 0, .int 0, .int (-1), .ref m_lines, .ref m_has, .ref m_person, .ref m_letter, .int 0, .ref m_isKept, .ref m_more, .int 0, .ref m_came, .ref m_answered, .ref m_left, .ref m_leftOn, .ref m_isBurnt, .ref m_heard, .ref m_waitsOn, .ref m_idleOn, .ref m_row, .int 0, .int 0, .long 0, .ref m_key, .int 0, .int 0, .int 0, .int 0, .int 0, .int 0, .int 0, .int 0, .ref m_coming, .int 0, .ref m_tried, .ref m_bestOrder, .int 0, .int 0, .ref m_before, .int 0, .ref m_open])), (m_has, .inl (mk_has, 30, .inl (fun _ => 0)))]) (w1 := []) hP hD [0, 1] [2, 3] rfl rfl (by decide) (by decide) hk1 hFc nilP nilD
  clear hPc hDc hKc hFc
  generalize H1 = H at hP hS ⊢
  have hP : va_P (dC, dI) vwCl [(mq, .inr (9, [.int 0, .ref m_width, .ref m_many, .ref m_cells, .ref m_moved, .ref m_tape, .int 0, .int 0, .int 0, .int 0, .int 0, .long 0, .int 0, .int 0, .int 0, .int (-1), .ref m_lines, .ref m_has, .ref m_person, .ref m_letter, .int 0, .ref m_isKept, .ref m_more, .int 0, .ref m_came, .ref m_answered, .ref m_left, .ref m_leftOn, .ref m_isBurnt, .ref m_heard, .ref m_waitsOn, .ref m_idleOn, .ref m_row, .int 0, .int 0, .long 0, .ref m_key, .int 0, .int 0, .int 0, .int 0, .int 0, .int 0, .int 0, .int 0, .ref m_coming, .int 0, .ref m_tried, .ref m_bestOrder, .int 0, .int 0, .ref m_before, .int 0, .ref m_open])), (m_has, .inl (mk_has, 30, .inl (fun _ => 0)))] H := hP
  have hD : va_D (fun q : Nat => s.heap.size ≤ q) [(mq, .inr (9, [.int 0, .ref m_width, .ref m_many, .ref m_cells, .ref m_moved, .ref m_tape, .int 0, .int 0, .int 0, .int 0, .int 0, .long 0, .int 0, .int 0, .int 0, .int (-1), .ref m_lines, .ref m_has, .ref m_person, .ref m_letter, .int 0, .ref m_isKept, .ref m_more, .int 0, .ref m_came, .ref m_answered, .ref m_left, .ref m_leftOn, .ref m_isBurnt, .ref m_heard, .ref m_waitsOn, .ref m_idleOn, .ref m_row, .int 0, .int 0, .long 0, .ref m_key, .int 0, .int 0, .int 0, .int 0, .int 0, .int 0, .int 0, .int 0, .ref m_coming, .int 0, .ref m_tried, .ref m_bestOrder, .int 0, .int 0, .ref m_before, .int 0, .ref m_open])), (m_has, .inl (mk_has, 30, .inl (fun _ => 0)))] := hD
  have hw : r_7 = (-2) := hw
  subst hw
  refine lv_aload_n hx hb dL_law_1217 rfl (lv_at hl 1 rfl) ?_
  refine lv_aload_n hx hb dL_law_1218 rfl (lv_at hl 3 rfl) ?_
  refine lv_iload_n hx hb dL_law_1219 rfl (lv_at hl 0 rfl) ?_
  refine lv_iconst (v := 1) hx hb dL_law_1220 (by decide) ?_
  refine lv_iadd hx hb dL_law_1221 ?_
  refine lv_topi (fun x_8 ex_8 => ?_)
  obtain rfl : x_8 = 1 := ex_8.trans (by decide +kernel)
  refine va_sld hx hb hX hbl hbA hS (show vp_in 1 6 from (by unfold vp_in; decide)) dL_law_1222 ?_
  refine lv_topi (fun x_9 ex_9 => ?_)
  obtain rfl : x_9 = xs 1 := ex_9.trans (congrArg xs (by decide))
  refine lv_aload_n hx hb dL_law_1223 rfl (lv_at hl 3 rfl) ?_
  refine lv_iload_n hx hb dL_law_1224 rfl (lv_at hl 0 rfl) ?_
  refine lv_iconst (v := 2) hx hb dL_law_1225 (by decide) ?_
  refine lv_iadd hx hb dL_law_1226 ?_
  refine lv_topi (fun x_10 ex_10 => ?_)
  obtain rfl : x_10 = 2 := ex_10.trans (by decide +kernel)
  refine va_sld hx hb hX hbl hbA hS (show vp_in 2 6 from (by unfold vp_in; decide)) dL_law_1227 ?_
  refine lv_topi (fun x_11 ex_11 => ?_)
  obtain rfl : x_11 = xs 2 := ex_11.trans (congrArg xs (by decide))
  refine lv_aload_n hx hb dL_law_1228 rfl (lv_at hl 3 rfl) ?_
  refine lv_iload_n hx hb dL_law_1229 rfl (lv_at hl 0 rfl) ?_
  refine lv_iconst (v := 3) hx hb dL_law_1230 (by decide) ?_
  refine lv_iadd hx hb dL_law_1231 ?_
  refine lv_topi (fun x_12 ex_12 => ?_)
  obtain rfl : x_12 = 3 := ex_12.trans (by decide +kernel)
  refine va_sld hx hb hX hbl hbA hS (show vp_in 3 6 from (by unfold vp_in; decide)) dL_law_1232 ?_
  refine lv_topi (fun x_13 ex_13 => ?_)
  obtain rfl : x_13 = xs 3 := ex_13.trans (congrArg xs (by decide))
  have hPc := hP.sub (ws' := [(mq, .inr (9, [.int 0, .ref m_width, .ref m_many, .ref m_cells, .ref m_moved, .ref m_tape, .int 0, .int 0, .int 0, .int 0, .int 0, .long 0, .int 0, .int 0, .int 0, .int (-1), .ref m_lines, .ref m_has, .ref m_person, .ref m_letter, .int 0, .ref m_isKept, .ref m_more, .int 0, .ref m_came, .ref m_answered, .ref m_left, .ref m_leftOn, .ref m_isBurnt, .ref m_heard, .ref m_waitsOn, .ref m_idleOn, .ref m_row, .int 0, .int 0, .long 0, .ref m_key, .int 0, .int 0, .int 0, .int 0, .int 0, .int 0, .int 0, .int 0, .ref m_coming, .int 0, .ref m_tried, .ref m_bestOrder, .int 0, .int 0, .ref m_before, .int 0, .ref m_open])), (m_has, .inl (mk_has, 30, .inl (fun _ => 0)))]) [0, 1] rfl
  have hDc := hD.sub (ws' := [(mq, .inr (9, [.int 0, .ref m_width, .ref m_many, .ref m_cells, .ref m_moved, .ref m_tape, .int 0, .int 0, .int 0, .int 0, .int 0, .long 0, .int 0, .int 0, .int 0, .int (-1), .ref m_lines, .ref m_has, .ref m_person, .ref m_letter, .int 0, .ref m_isKept, .ref m_more, .int 0, .ref m_came, .ref m_answered, .ref m_left, .ref m_leftOn, .ref m_isBurnt, .ref m_heard, .ref m_waitsOn, .ref m_idleOn, .ref m_row, .int 0, .int 0, .long 0, .ref m_key, .int 0, .int 0, .int 0, .int 0, .int 0, .int 0, .int 0, .int 0, .ref m_coming, .int 0, .ref m_tried, .ref m_bestOrder, .int 0, .int 0, .ref m_before, .int 0, .ref m_open])), (m_has, .inl (mk_has, 30, .inl (fun _ => 0)))]) [0, 1] (by decide) rfl
  have hKc := hK.sub (tys' := [(mk_has, .int)]) [0] rfl
  have hFc := va_free (wc := [(mq, .inr (9, [.int 0, .ref m_width, .ref m_many, .ref m_cells, .ref m_moved, .ref m_tape, .int 0, .int 0, .int 0, .int 0, .int 0, .long 0, .int 0, .int 0, .int 0, .int (-1), .ref m_lines, .ref m_has, .ref m_person, .ref m_letter, .int 0, .ref m_isKept, .ref m_more, .int 0, .ref m_came, .ref m_answered, .ref m_left, .ref m_leftOn, .ref m_isBurnt, .ref m_heard, .ref m_waitsOn, .ref m_idleOn, .ref m_row, .int 0, .int 0, .long 0, .ref m_key, .int 0, .int 0, .int 0, .int 0, .int 0, .int 0, .int 0, .int 0, .ref m_coming, .int 0, .ref m_tried, .ref m_bestOrder, .int 0, .int 0, .ref m_before, .int 0, .ref m_open])), (m_has, .inl (mk_has, 30, .inl (fun _ => 0)))]) hD hS hA [0, 1] rfl
  refine va_calli (va_runV (As := [.int (xs 1), .int (xs 2), .int (xs 3)]) (rest := [.int (-2)]) ⟨hx, hb, hml, hown, hts⟩ (mc_visit l dC dI H.size mq m_width m_many m_cells m_moved m_tape m_lines m_has m_person m_letter m_isKept m_more m_came m_answered m_left m_leftOn m_isBurnt m_heard m_waitsOn m_idleOn m_row m_key m_coming m_tried m_bestOrder m_before m_open mk_has ((xs 1)) ((xs 2)) ((xs 3)) ) (cwV 3 hts (goodV w_1202 w_1203 w_1204 w_5 w_1205) rfl rfl rfl hdV_X9_visit ⟨Nat.le_of_ble_eq_true rfl, Nat.le_of_ble_eq_true rfl⟩) ⟨fun a U g mk q => by obtain ⟨q0, q1, qP, qK, qD⟩ := q; exact ⟨q0, q1, qP, va_K.moved (u := U) (U := U.calling g mk a) (Vm.Alike.refl U.vm) qK, qD⟩, va_recv hKc hPc (ci := 9) (q0 := 0) rfl rfl, fun U hU hW => ⟨rfl, by rw [hU], by rw [hU]; exact hPc, va_K.moved hW.alike hKc, hDc.weaken (fun _ _ _ _ => trivial)⟩⟩ rfl rfl hl.1 rfl (lv_room (Nat.le_of_ble_eq_true rfl)) dL_law_1233 ⟨Nat.le_of_ble_eq_true rfl, Nat.le_of_ble_eq_true rfl⟩) hS (fun q _ h => hFc q h) hFc (fun r_14 u t H1 locs ht hvm hw hB hz1 hk1 hS => ?_)
  obtain ⟨hP, hD⟩ := va_join (wr := []) (w1 := []) hP hD [0, 1] [] rfl rfl (by decide) (by decide) hk1 hFc nilP nilD
  clear hPc hDc hKc hFc
  generalize H1 = H at hP hS ⊢
  have hP : va_P (dC, dI) vwCl [] H := hP
  have hD : va_D (fun q : Nat => s.heap.size ≤ q) [] := hD
  have hw : r_14 = (-2) := hw
  subst hw
  refine lv_icmp_eq (tgt := 1677) hx hb dL_law_1236 (by decide) (fun c_15 => ?_) (fun c_15 => absurd (by decide) c_15)
  exact law_tail C0 hS (lv_sub hl [0, 3] rfl)

set_option maxHeartbeats 4000000 in
set_option maxRecDepth 100000 in
theorem law_pays {p : Program} {l : Launch} {e : Env} {s : State} {m : MethodId} {below : List Frame} {meth : Method} {c : Code} {dC : Nat → ClassId} {dI : Nat → Nat → Nat} {b : Nat} {xs : Nat → Int32} {H : Heap} {locs : List Loc} {ls : Array Slot} {x_tape : Nat} {x_reader : Nat} {x_current : Nat} {x_images : Nat} {x_kept : Nat} {x_slots : Nat} {x_diary : Nat} {x_base : Nat} {x_trial : Nat} {x_plan : Nat} {x_orders : Nat} {x_unanswered : Nat} {t0 : Nat} {t1 : Nat} {t2 : Nat} {t3 : Nat} {t4 : Nat} {t5 : Nat} {t6 : Nat} {t7 : Nat} {t8 : Nat} {t9 : Nat} {m_width : Nat} {m_many : Nat} {m_cells : Nat} {m_moved : Nat} {m_tape : Nat} {m_lines : Nat} {m_has : Nat} {m_person : Nat} {m_letter : Nat} {m_isKept : Nat} {m_more : Nat} {m_came : Nat} {m_answered : Nat} {m_left : Nat} {m_leftOn : Nat} {m_isBurnt : Nat} {m_heard : Nat} {m_waitsOn : Nat} {m_idleOn : Nat} {m_row : Nat} {m_key : Nat} {m_coming : Nat} {m_tried : Nat} {m_bestOrder : Nat} {m_before : Nat} {m_open : Nat} {mk_has : ClassId} {xq : Nat} {mq : Nat} (C0 : lw_At p s m meth c b 6 xs)  (hK : va_K (dC, dI) vwCl [(mk_has, .int)] s) (hP : va_P (dC, dI) vwCl [(xq, .inr (8, [.ref x_tape, .ref x_reader, .ref x_current, .ref x_images, .ref x_kept, .ref x_slots, .ref x_diary, .ref x_base, .ref x_trial, .ref x_plan, .ref x_orders, .ref x_unanswered, .int 0, .int 0, .int (-1)])), (x_current, .inr (7, [.int 0, .int 0, .int 0, .int 0, .int 0, .int 0, .int 0, .int 0, .ref t0, .ref t1, .ref t2, .ref t3, .ref t4, .ref t5, .ref t6, .ref t7, .ref t8, .ref t9])), (mq, .inr (9, [.int 0, .ref m_width, .ref m_many, .ref m_cells, .ref m_moved, .ref m_tape, .int 0, .int 0, .int 0, .int 0, .int 0, .long 0, .int 0, .int 0, .int 0, .int (-1), .ref m_lines, .ref m_has, .ref m_person, .ref m_letter, .int 0, .ref m_isKept, .ref m_more, .int 0, .ref m_came, .ref m_answered, .ref m_left, .ref m_leftOn, .ref m_isBurnt, .ref m_heard, .ref m_waitsOn, .ref m_idleOn, .ref m_row, .int 0, .int 0, .long 0, .ref m_key, .int 0, .int 0, .int 0, .int 0, .int 0, .int 0, .int 0, .int 0, .ref m_coming, .int 0, .ref m_tried, .ref m_bestOrder, .int 0, .int 0, .ref m_before, .int 0, .ref m_open])), (m_has, .inl (mk_has, 30, .inl (fun _ => 0)))] H) (hD : va_D (fun q : Nat => s.heap.size ≤ q) [(xq, .inr (8, [.ref x_tape, .ref x_reader, .ref x_current, .ref x_images, .ref x_kept, .ref x_slots, .ref x_diary, .ref x_base, .ref x_trial, .ref x_plan, .ref x_orders, .ref x_unanswered, .int 0, .int 0, .int (-1)])), (x_current, .inr (7, [.int 0, .int 0, .int 0, .int 0, .int 0, .int 0, .int 0, .int 0, .ref t0, .ref t1, .ref t2, .ref t3, .ref t4, .ref t5, .ref t6, .ref t7, .ref t8, .ref t9])), (mq, .inr (9, [.int 0, .ref m_width, .ref m_many, .ref m_cells, .ref m_moved, .ref m_tape, .int 0, .int 0, .int 0, .int 0, .int 0, .long 0, .int 0, .int 0, .int 0, .int (-1), .ref m_lines, .ref m_has, .ref m_person, .ref m_letter, .int 0, .ref m_isKept, .ref m_more, .int 0, .ref m_came, .ref m_answered, .ref m_left, .ref m_leftOn, .ref m_isBurnt, .ref m_heard, .ref m_waitsOn, .ref m_idleOn, .ref m_row, .int 0, .int 0, .long 0, .ref m_key, .int 0, .int 0, .int 0, .int 0, .int 0, .int 0, .int 0, .int 0, .ref m_coming, .int 0, .ref m_tried, .ref m_bestOrder, .int 0, .int 0, .ref m_before, .int 0, .ref m_open])), (m_has, .inl (mk_has, 30, .inl (fun _ => 0)))]) (hS : va_S (fun q : Nat => s.heap.size ≤ q) s.heap H locs) (hl : lv_has ls 4 [(3, .int 0), (2, .ref mq), (1, .ref xq), (0, .ref b)]) : W p l e room_1 s m #[Value.ref b] below meth c H locs 144 16687 (lw_Z below #[Value.ref b] s) (F0 m 1241 ls []) := by
  obtain ⟨hx, hb, hr, hml, hown, hts0, hX, hbl, hlocks, hgv⟩ := id C0
  have hts : ∀ w ∈ ALLW, w.before #[Value.ref b] s = true := fun w h => hts0 w (inT w h)
  have hA : ∀ q : Nat, s.heap.size ≤ q → (fun q : Nat => s.heap.size ≤ q) q := fun _ h => h
  have hbA : ¬ (fun q : Nat => s.heap.size ≤ q) b := Nat.not_le.mpr hbl
  refine lv_aload_n hx hb dL_law_1241 rfl (lv_at hl 2 rfl) ?_
  refine lv_aload_n hx hb dL_law_1242 rfl (lv_at hl 3 rfl) ?_
  refine lv_iload_n hx hb dL_law_1243 rfl (lv_at hl 0 rfl) ?_
  refine lv_iconst (v := 1) hx hb dL_law_1244 (by decide) ?_
  refine lv_iadd hx hb dL_law_1245 ?_
  refine lv_topi (fun x_1 ex_1 => ?_)
  obtain rfl : x_1 = 1 := ex_1.trans (by decide +kernel)
  refine va_sld hx hb hX hbl hbA hS (show vp_in 1 6 from (by unfold vp_in; decide)) dL_law_1246 ?_
  refine lv_topi (fun x_2 ex_2 => ?_)
  obtain rfl : x_2 = xs 1 := ex_2.trans (congrArg xs (by decide))
  refine lv_aload_n hx hb dL_law_1247 rfl (lv_at hl 3 rfl) ?_
  refine lv_iload_n hx hb dL_law_1248 rfl (lv_at hl 0 rfl) ?_
  refine lv_iconst (v := 2) hx hb dL_law_1249 (by decide) ?_
  refine lv_iadd hx hb dL_law_1250 ?_
  refine lv_topi (fun x_3 ex_3 => ?_)
  obtain rfl : x_3 = 2 := ex_3.trans (by decide +kernel)
  refine va_sld hx hb hX hbl hbA hS (show vp_in 2 6 from (by unfold vp_in; decide)) dL_law_1251 ?_
  refine lv_topi (fun x_4 ex_4 => ?_)
  obtain rfl : x_4 = xs 2 := ex_4.trans (congrArg xs (by decide))
  have hPc := hP.sub (ws' := [(xq, .inr (8, [.ref x_tape, .ref x_reader, .ref x_current, .ref x_images, .ref x_kept, .ref x_slots, .ref x_diary, .ref x_base, .ref x_trial, .ref x_plan, .ref x_orders, .ref x_unanswered, .int 0, .int 0, .int (-1)])), (x_current, .inr (7, [.int 0, .int 0, .int 0, .int 0, .int 0, .int 0, .int 0, .int 0, .ref t0, .ref t1, .ref t2, .ref t3, .ref t4, .ref t5, .ref t6, .ref t7, .ref t8, .ref t9]))]) [0, 1] rfl
  have hDc := hD.sub (ws' := [(xq, .inr (8, [.ref x_tape, .ref x_reader, .ref x_current, .ref x_images, .ref x_kept, .ref x_slots, .ref x_diary, .ref x_base, .ref x_trial, .ref x_plan, .ref x_orders, .ref x_unanswered, .int 0, .int 0, .int (-1)])), (x_current, .inr (7, [.int 0, .int 0, .int 0, .int 0, .int 0, .int 0, .int 0, .int 0, .ref t0, .ref t1, .ref t2, .ref t3, .ref t4, .ref t5, .ref t6, .ref t7, .ref t8, .ref t9]))]) [0, 1] (by decide) rfl
  have hKc := hK.sub (tys' := []) [] rfl
  have hFc := va_free (wc := [(xq, .inr (8, [.ref x_tape, .ref x_reader, .ref x_current, .ref x_images, .ref x_kept, .ref x_slots, .ref x_diary, .ref x_base, .ref x_trial, .ref x_plan, .ref x_orders, .ref x_unanswered, .int 0, .int 0, .int (-1)])), (x_current, .inr (7, [.int 0, .int 0, .int 0, .int 0, .int 0, .int 0, .int 0, .int 0, .ref t0, .ref t1, .ref t2, .ref t3, .ref t4, .ref t5, .ref t6, .ref t7, .ref t8, .ref t9]))]) hD hS hA [0, 1] rfl
  refine va_calli (va_runV (As := [.int (xs 1), .int (xs 2)]) (rest := []) ⟨hx, hb, hml, hown, hts⟩ (x_pays l dC dI H.size xq x_tape x_reader x_current x_images x_kept x_slots x_diary x_base x_trial x_plan x_orders x_unanswered t0 t1 t2 t3 t4 t5 t6 t7 t8 t9 ((xs 1)) ((xs 2)) ) (cwV 2 hts (goodV w_1214 w_1215 w_1216 w_2 w_1217) rfl rfl rfl hdV_X8_pays ⟨Nat.le_of_ble_eq_true rfl, Nat.le_of_ble_eq_true rfl⟩) ⟨fun a U g mk q => by obtain ⟨q0, q1, qP, qK, qD⟩ := q; exact ⟨q0, q1, qP, va_K.moved (u := U) (U := U.calling g mk a) (Vm.Alike.refl U.vm) qK, qD⟩, va_recv hKc hPc (ci := 8) (q0 := 0) rfl rfl, fun U hU hW => ⟨rfl, by rw [hU], by rw [hU]; exact hPc, va_K.moved hW.alike hKc, hDc.weaken (fun _ _ _ _ => trivial)⟩⟩ rfl rfl hl.1 rfl (lv_room (Nat.le_of_ble_eq_true rfl)) dL_law_1252 ⟨Nat.le_of_ble_eq_true rfl, Nat.le_of_ble_eq_true rfl⟩) hS (fun q _ h => hFc q h) hFc (fun r_5 u t H1 locs ht hvm hw hB hz1 hk1 hS => ?_)
  obtain ⟨hP, hD⟩ := va_join (wr := [(mq, .inr (9, [.int 0, .ref m_width, .ref m_many, .ref m_cells, .ref m_moved, .ref m_tape, .int 0, .int 0, .int 0, .int 0, .int 0, .long 0, .int 0, .int 0, .int 0, .int (-1), .ref m_lines, .ref m_has, .ref m_person, .ref m_letter, .int 0, .ref m_isKept, .ref m_more, .int 0, .ref m_came, .ref m_answered, .ref m_left, .ref m_leftOn, .ref m_isBurnt, .ref m_heard, .ref m_waitsOn, .ref m_idleOn, .ref m_row, .int 0, .int 0, .long 0, .ref m_key, .int 0, .int 0, .int 0, .int 0, .int 0, .int 0, .int 0, .int 0, .ref m_coming, .int 0, .ref m_tried, .ref m_bestOrder, .int 0, .int 0, .ref m_before, .int 0, .ref m_open])), (m_has, .inl (mk_has, 30, .inl (fun _ => 0)))]) (w1 := []) hP hD [0, 1] [2, 3] rfl rfl (by decide) (by decide) hk1 hFc nilP nilD
  clear hPc hDc hKc hFc
  generalize H1 = H at hP hS ⊢
  have hP : va_P (dC, dI) vwCl [(mq, .inr (9, [.int 0, .ref m_width, .ref m_many, .ref m_cells, .ref m_moved, .ref m_tape, .int 0, .int 0, .int 0, .int 0, .int 0, .long 0, .int 0, .int 0, .int 0, .int (-1), .ref m_lines, .ref m_has, .ref m_person, .ref m_letter, .int 0, .ref m_isKept, .ref m_more, .int 0, .ref m_came, .ref m_answered, .ref m_left, .ref m_leftOn, .ref m_isBurnt, .ref m_heard, .ref m_waitsOn, .ref m_idleOn, .ref m_row, .int 0, .int 0, .long 0, .ref m_key, .int 0, .int 0, .int 0, .int 0, .int 0, .int 0, .int 0, .int 0, .ref m_coming, .int 0, .ref m_tried, .ref m_bestOrder, .int 0, .int 0, .ref m_before, .int 0, .ref m_open])), (m_has, .inl (mk_has, 30, .inl (fun _ => 0)))] H := hP
  have hD : va_D (fun q : Nat => s.heap.size ≤ q) [(mq, .inr (9, [.int 0, .ref m_width, .ref m_many, .ref m_cells, .ref m_moved, .ref m_tape, .int 0, .int 0, .int 0, .int 0, .int 0, .long 0, .int 0, .int 0, .int 0, .int (-1), .ref m_lines, .ref m_has, .ref m_person, .ref m_letter, .int 0, .ref m_isKept, .ref m_more, .int 0, .ref m_came, .ref m_answered, .ref m_left, .ref m_leftOn, .ref m_isBurnt, .ref m_heard, .ref m_waitsOn, .ref m_idleOn, .ref m_row, .int 0, .int 0, .long 0, .ref m_key, .int 0, .int 0, .int 0, .int 0, .int 0, .int 0, .int 0, .int 0, .ref m_coming, .int 0, .ref m_tried, .ref m_bestOrder, .int 0, .int 0, .ref m_before, .int 0, .ref m_open])), (m_has, .inl (mk_has, 30, .inl (fun _ => 0)))] := hD
  have hw : r_5 = (-2) := hw
  subst hw
  refine lv_aload_n hx hb dL_law_1255 rfl (lv_at hl 1 rfl) ?_
  refine lv_aload_n hx hb dL_law_1256 rfl (lv_at hl 3 rfl) ?_
  refine lv_iload_n hx hb dL_law_1257 rfl (lv_at hl 0 rfl) ?_
  refine lv_iconst (v := 1) hx hb dL_law_1258 (by decide) ?_
  refine lv_iadd hx hb dL_law_1259 ?_
  refine lv_topi (fun x_6 ex_6 => ?_)
  obtain rfl : x_6 = 1 := ex_6.trans (by decide +kernel)
  refine va_sld hx hb hX hbl hbA hS (show vp_in 1 6 from (by unfold vp_in; decide)) dL_law_1260 ?_
  refine lv_topi (fun x_7 ex_7 => ?_)
  obtain rfl : x_7 = xs 1 := ex_7.trans (congrArg xs (by decide))
  refine lv_aload_n hx hb dL_law_1261 rfl (lv_at hl 3 rfl) ?_
  refine lv_iload_n hx hb dL_law_1262 rfl (lv_at hl 0 rfl) ?_
  refine lv_iconst (v := 2) hx hb dL_law_1263 (by decide) ?_
  refine lv_iadd hx hb dL_law_1264 ?_
  refine lv_topi (fun x_8 ex_8 => ?_)
  obtain rfl : x_8 = 2 := ex_8.trans (by decide +kernel)
  refine va_sld hx hb hX hbl hbA hS (show vp_in 2 6 from (by unfold vp_in; decide)) dL_law_1265 ?_
  refine lv_topi (fun x_9 ex_9 => ?_)
  obtain rfl : x_9 = xs 2 := ex_9.trans (congrArg xs (by decide))
  have hPc := hP.sub (ws' := [(mq, .inr (9, [.int 0, .ref m_width, .ref m_many, .ref m_cells, .ref m_moved, .ref m_tape, .int 0, .int 0, .int 0, .int 0, .int 0, .long 0, .int 0, .int 0, .int 0, .int (-1), .ref m_lines, .ref m_has, .ref m_person, .ref m_letter, .int 0, .ref m_isKept, .ref m_more, .int 0, .ref m_came, .ref m_answered, .ref m_left, .ref m_leftOn, .ref m_isBurnt, .ref m_heard, .ref m_waitsOn, .ref m_idleOn, .ref m_row, .int 0, .int 0, .long 0, .ref m_key, .int 0, .int 0, .int 0, .int 0, .int 0, .int 0, .int 0, .int 0, .ref m_coming, .int 0, .ref m_tried, .ref m_bestOrder, .int 0, .int 0, .ref m_before, .int 0, .ref m_open])), (m_has, .inl (mk_has, 30, .inl (fun _ => 0)))]) [0, 1] rfl
  have hDc := hD.sub (ws' := [(mq, .inr (9, [.int 0, .ref m_width, .ref m_many, .ref m_cells, .ref m_moved, .ref m_tape, .int 0, .int 0, .int 0, .int 0, .int 0, .long 0, .int 0, .int 0, .int 0, .int (-1), .ref m_lines, .ref m_has, .ref m_person, .ref m_letter, .int 0, .ref m_isKept, .ref m_more, .int 0, .ref m_came, .ref m_answered, .ref m_left, .ref m_leftOn, .ref m_isBurnt, .ref m_heard, .ref m_waitsOn, .ref m_idleOn, .ref m_row, .int 0, .int 0, .long 0, .ref m_key, .int 0, .int 0, .int 0, .int 0, .int 0, .int 0, .int 0, .int 0, .ref m_coming, .int 0, .ref m_tried, .ref m_bestOrder, .int 0, .int 0, .ref m_before, .int 0, .ref m_open])), (m_has, .inl (mk_has, 30, .inl (fun _ => 0)))]) [0, 1] (by decide) rfl
  have hKc := hK.sub (tys' := [(mk_has, .int)]) [0] rfl
  have hFc := va_free (wc := [(mq, .inr (9, [.int 0, .ref m_width, .ref m_many, .ref m_cells, .ref m_moved, .ref m_tape, .int 0, .int 0, .int 0, .int 0, .int 0, .long 0, .int 0, .int 0, .int 0, .int (-1), .ref m_lines, .ref m_has, .ref m_person, .ref m_letter, .int 0, .ref m_isKept, .ref m_more, .int 0, .ref m_came, .ref m_answered, .ref m_left, .ref m_leftOn, .ref m_isBurnt, .ref m_heard, .ref m_waitsOn, .ref m_idleOn, .ref m_row, .int 0, .int 0, .long 0, .ref m_key, .int 0, .int 0, .int 0, .int 0, .int 0, .int 0, .int 0, .int 0, .ref m_coming, .int 0, .ref m_tried, .ref m_bestOrder, .int 0, .int 0, .ref m_before, .int 0, .ref m_open])), (m_has, .inl (mk_has, 30, .inl (fun _ => 0)))]) hD hS hA [0, 1] rfl
  refine va_calli (va_runV (As := [.int (xs 1), .int (xs 2)]) (rest := [.int (-2)]) ⟨hx, hb, hml, hown, hts⟩ (mc_pays l dC dI H.size mq m_width m_many m_cells m_moved m_tape m_lines m_has m_person m_letter m_isKept m_more m_came m_answered m_left m_leftOn m_isBurnt m_heard m_waitsOn m_idleOn m_row m_key m_coming m_tried m_bestOrder m_before m_open mk_has ((xs 1)) ((xs 2)) ) (cwV 2 hts (goodV w_1218 w_1219 w_1220 w_5 w_1221) rfl rfl rfl hdV_X9_pays ⟨Nat.le_of_ble_eq_true rfl, Nat.le_of_ble_eq_true rfl⟩) ⟨fun a U g mk q => by obtain ⟨q0, q1, qP, qK, qD⟩ := q; exact ⟨q0, q1, qP, va_K.moved (u := U) (U := U.calling g mk a) (Vm.Alike.refl U.vm) qK, qD⟩, va_recv hKc hPc (ci := 9) (q0 := 0) rfl rfl, fun U hU hW => ⟨rfl, by rw [hU], by rw [hU]; exact hPc, va_K.moved hW.alike hKc, hDc.weaken (fun _ _ _ _ => trivial)⟩⟩ rfl rfl hl.1 rfl (lv_room (Nat.le_of_ble_eq_true rfl)) dL_law_1266 ⟨Nat.le_of_ble_eq_true rfl, Nat.le_of_ble_eq_true rfl⟩) hS (fun q _ h => hFc q h) hFc (fun r_10 u t H1 locs ht hvm hw hB hz1 hk1 hS => ?_)
  obtain ⟨hP, hD⟩ := va_join (wr := []) (w1 := []) hP hD [0, 1] [] rfl rfl (by decide) (by decide) hk1 hFc nilP nilD
  clear hPc hDc hKc hFc
  generalize H1 = H at hP hS ⊢
  have hP : va_P (dC, dI) vwCl [] H := hP
  have hD : va_D (fun q : Nat => s.heap.size ≤ q) [] := hD
  have hw : r_10 = (-2) := hw
  subst hw
  refine lv_icmp_eq (tgt := 1677) hx hb dL_law_1269 (by decide) (fun c_11 => ?_) (fun c_11 => absurd (by decide) c_11)
  exact law_tail C0 hS (lv_sub hl [0, 3] rfl)

set_option maxHeartbeats 4000000 in
set_option maxRecDepth 100000 in
theorem law_instead {p : Program} {l : Launch} {e : Env} {s : State} {m : MethodId} {below : List Frame} {meth : Method} {c : Code} {dC : Nat → ClassId} {dI : Nat → Nat → Nat} {b : Nat} {xs : Nat → Int32} {H : Heap} {locs : List Loc} {ls : Array Slot} {x_tape : Nat} {x_reader : Nat} {x_current : Nat} {x_images : Nat} {x_kept : Nat} {x_slots : Nat} {x_diary : Nat} {x_base : Nat} {x_trial : Nat} {x_plan : Nat} {x_orders : Nat} {x_unanswered : Nat} {t0 : Nat} {t1 : Nat} {t2 : Nat} {t3 : Nat} {t4 : Nat} {t5 : Nat} {t6 : Nat} {t7 : Nat} {t8 : Nat} {t9 : Nat} {m_width : Nat} {m_many : Nat} {m_cells : Nat} {m_moved : Nat} {m_tape : Nat} {m_lines : Nat} {m_has : Nat} {m_person : Nat} {m_letter : Nat} {m_isKept : Nat} {m_more : Nat} {m_came : Nat} {m_answered : Nat} {m_left : Nat} {m_leftOn : Nat} {m_isBurnt : Nat} {m_heard : Nat} {m_waitsOn : Nat} {m_idleOn : Nat} {m_row : Nat} {m_key : Nat} {m_coming : Nat} {m_tried : Nat} {m_bestOrder : Nat} {m_before : Nat} {m_open : Nat} {mk_lines : ClassId} {xq : Nat} {mq : Nat} (C0 : lw_At p s m meth c b 6 xs)  (hK : va_K (dC, dI) vwCl [(mk_lines, .int)] s) (hP : va_P (dC, dI) vwCl [(xq, .inr (8, [.ref x_tape, .ref x_reader, .ref x_current, .ref x_images, .ref x_kept, .ref x_slots, .ref x_diary, .ref x_base, .ref x_trial, .ref x_plan, .ref x_orders, .ref x_unanswered, .int 0, .int 0, .int (-1)])), (x_current, .inr (7, [.int 0, .int 0, .int 0, .int 0, .int 0, .int 0, .int 0, .int 0, .ref t0, .ref t1, .ref t2, .ref t3, .ref t4, .ref t5, .ref t6, .ref t7, .ref t8, .ref t9])), (mq, .inr (9, [.int 0, .ref m_width, .ref m_many, .ref m_cells, .ref m_moved, .ref m_tape, .int 0, .int 0, .int 0, .int 0, .int 0, .long 0, .int 0, .int 0, .int 0, .int (-1), .ref m_lines, .ref m_has, .ref m_person, .ref m_letter, .int 0, .ref m_isKept, .ref m_more, .int 0, .ref m_came, .ref m_answered, .ref m_left, .ref m_leftOn, .ref m_isBurnt, .ref m_heard, .ref m_waitsOn, .ref m_idleOn, .ref m_row, .int 0, .int 0, .long 0, .ref m_key, .int 0, .int 0, .int 0, .int 0, .int 0, .int 0, .int 0, .int 0, .ref m_coming, .int 0, .ref m_tried, .ref m_bestOrder, .int 0, .int 0, .ref m_before, .int 0, .ref m_open])), (m_lines, .inl (mk_lines, 5, .inl (fun _ => 0)))] H) (hD : va_D (fun q : Nat => s.heap.size ≤ q) [(xq, .inr (8, [.ref x_tape, .ref x_reader, .ref x_current, .ref x_images, .ref x_kept, .ref x_slots, .ref x_diary, .ref x_base, .ref x_trial, .ref x_plan, .ref x_orders, .ref x_unanswered, .int 0, .int 0, .int (-1)])), (x_current, .inr (7, [.int 0, .int 0, .int 0, .int 0, .int 0, .int 0, .int 0, .int 0, .ref t0, .ref t1, .ref t2, .ref t3, .ref t4, .ref t5, .ref t6, .ref t7, .ref t8, .ref t9])), (mq, .inr (9, [.int 0, .ref m_width, .ref m_many, .ref m_cells, .ref m_moved, .ref m_tape, .int 0, .int 0, .int 0, .int 0, .int 0, .long 0, .int 0, .int 0, .int 0, .int (-1), .ref m_lines, .ref m_has, .ref m_person, .ref m_letter, .int 0, .ref m_isKept, .ref m_more, .int 0, .ref m_came, .ref m_answered, .ref m_left, .ref m_leftOn, .ref m_isBurnt, .ref m_heard, .ref m_waitsOn, .ref m_idleOn, .ref m_row, .int 0, .int 0, .long 0, .ref m_key, .int 0, .int 0, .int 0, .int 0, .int 0, .int 0, .int 0, .int 0, .ref m_coming, .int 0, .ref m_tried, .ref m_bestOrder, .int 0, .int 0, .ref m_before, .int 0, .ref m_open])), (m_lines, .inl (mk_lines, 5, .inl (fun _ => 0)))]) (hS : va_S (fun q : Nat => s.heap.size ≤ q) s.heap H locs) (hl : lv_has ls 4 [(3, .int 0), (2, .ref mq), (1, .ref xq), (0, .ref b)]) : W p l e room_1 s m #[Value.ref b] below meth c H locs 144 16687 (lw_Z below #[Value.ref b] s) (F0 m 1274 ls []) := by
  obtain ⟨hx, hb, hr, hml, hown, hts0, hX, hbl, hlocks, hgv⟩ := id C0
  have hts : ∀ w ∈ ALLW, w.before #[Value.ref b] s = true := fun w h => hts0 w (inT w h)
  have hA : ∀ q : Nat, s.heap.size ≤ q → (fun q : Nat => s.heap.size ≤ q) q := fun _ h => h
  have hbA : ¬ (fun q : Nat => s.heap.size ≤ q) b := Nat.not_le.mpr hbl
  refine lv_aload_n hx hb dL_law_1274 rfl (lv_at hl 2 rfl) ?_
  refine lv_aload_n hx hb dL_law_1275 rfl (lv_at hl 3 rfl) ?_
  refine lv_iload_n hx hb dL_law_1276 rfl (lv_at hl 0 rfl) ?_
  refine lv_iconst (v := 1) hx hb dL_law_1277 (by decide) ?_
  refine lv_iadd hx hb dL_law_1278 ?_
  refine lv_topi (fun x_1 ex_1 => ?_)
  obtain rfl : x_1 = 1 := ex_1.trans (by decide +kernel)
  refine va_sld hx hb hX hbl hbA hS (show vp_in 1 6 from (by unfold vp_in; decide)) dL_law_1279 ?_
  refine lv_topi (fun x_2 ex_2 => ?_)
  obtain rfl : x_2 = xs 1 := ex_2.trans (congrArg xs (by decide))
  have hPc := hP.sub (ws' := [(xq, .inr (8, [.ref x_tape, .ref x_reader, .ref x_current, .ref x_images, .ref x_kept, .ref x_slots, .ref x_diary, .ref x_base, .ref x_trial, .ref x_plan, .ref x_orders, .ref x_unanswered, .int 0, .int 0, .int (-1)])), (x_current, .inr (7, [.int 0, .int 0, .int 0, .int 0, .int 0, .int 0, .int 0, .int 0, .ref t0, .ref t1, .ref t2, .ref t3, .ref t4, .ref t5, .ref t6, .ref t7, .ref t8, .ref t9]))]) [0, 1] rfl
  have hDc := hD.sub (ws' := [(xq, .inr (8, [.ref x_tape, .ref x_reader, .ref x_current, .ref x_images, .ref x_kept, .ref x_slots, .ref x_diary, .ref x_base, .ref x_trial, .ref x_plan, .ref x_orders, .ref x_unanswered, .int 0, .int 0, .int (-1)])), (x_current, .inr (7, [.int 0, .int 0, .int 0, .int 0, .int 0, .int 0, .int 0, .int 0, .ref t0, .ref t1, .ref t2, .ref t3, .ref t4, .ref t5, .ref t6, .ref t7, .ref t8, .ref t9]))]) [0, 1] (by decide) rfl
  have hKc := hK.sub (tys' := []) [] rfl
  have hFc := va_free (wc := [(xq, .inr (8, [.ref x_tape, .ref x_reader, .ref x_current, .ref x_images, .ref x_kept, .ref x_slots, .ref x_diary, .ref x_base, .ref x_trial, .ref x_plan, .ref x_orders, .ref x_unanswered, .int 0, .int 0, .int (-1)])), (x_current, .inr (7, [.int 0, .int 0, .int 0, .int 0, .int 0, .int 0, .int 0, .int 0, .ref t0, .ref t1, .ref t2, .ref t3, .ref t4, .ref t5, .ref t6, .ref t7, .ref t8, .ref t9]))]) hD hS hA [0, 1] rfl
  refine va_calli (va_runV (As := [.int (xs 1)]) (rest := []) ⟨hx, hb, hml, hown, hts⟩ (x_instead l dC dI H.size xq x_tape x_reader x_current x_images x_kept x_slots x_diary x_base x_trial x_plan x_orders x_unanswered t0 t1 t2 t3 t4 t5 t6 t7 t8 t9 ((xs 1)) ) (cwV 1 hts (goodV w_1227 w_1228 w_1229 w_2 w_1230) rfl rfl rfl hdV_X8_instead ⟨Nat.le_of_ble_eq_true rfl, Nat.le_of_ble_eq_true rfl⟩) ⟨fun a U g mk q => by obtain ⟨q0, q1, qP, qK, qD⟩ := q; exact ⟨q0, q1, qP, va_K.moved (u := U) (U := U.calling g mk a) (Vm.Alike.refl U.vm) qK, qD⟩, va_recv hKc hPc (ci := 8) (q0 := 0) rfl rfl, fun U hU hW => ⟨rfl, by rw [hU], by rw [hU]; exact hPc, va_K.moved hW.alike hKc, hDc.weaken (fun _ _ _ _ => trivial)⟩⟩ rfl rfl hl.1 rfl (lv_room (Nat.le_of_ble_eq_true rfl)) dL_law_1280 ⟨Nat.le_of_ble_eq_true rfl, Nat.le_of_ble_eq_true rfl⟩) hS (fun q _ h => hFc q h) hFc (fun r_3 u t H1 locs ht hvm hw hB hz1 hk1 hS => ?_)
  obtain ⟨hP, hD⟩ := va_join (wr := [(mq, .inr (9, [.int 0, .ref m_width, .ref m_many, .ref m_cells, .ref m_moved, .ref m_tape, .int 0, .int 0, .int 0, .int 0, .int 0, .long 0, .int 0, .int 0, .int 0, .int (-1), .ref m_lines, .ref m_has, .ref m_person, .ref m_letter, .int 0, .ref m_isKept, .ref m_more, .int 0, .ref m_came, .ref m_answered, .ref m_left, .ref m_leftOn, .ref m_isBurnt, .ref m_heard, .ref m_waitsOn, .ref m_idleOn, .ref m_row, .int 0, .int 0, .long 0, .ref m_key, .int 0, .int 0, .int 0, .int 0, .int 0, .int 0, .int 0, .int 0, .ref m_coming, .int 0, .ref m_tried, .ref m_bestOrder, .int 0, .int 0, .ref m_before, .int 0, .ref m_open])), (m_lines, .inl (mk_lines, 5, .inl (fun _ => 0)))]) (w1 := []) hP hD [0, 1] [2, 3] rfl rfl (by decide) (by decide) hk1 hFc nilP nilD
  clear hPc hDc hKc hFc
  generalize H1 = H at hP hS ⊢
  have hP : va_P (dC, dI) vwCl [(mq, .inr (9, [.int 0, .ref m_width, .ref m_many, .ref m_cells, .ref m_moved, .ref m_tape, .int 0, .int 0, .int 0, .int 0, .int 0, .long 0, .int 0, .int 0, .int 0, .int (-1), .ref m_lines, .ref m_has, .ref m_person, .ref m_letter, .int 0, .ref m_isKept, .ref m_more, .int 0, .ref m_came, .ref m_answered, .ref m_left, .ref m_leftOn, .ref m_isBurnt, .ref m_heard, .ref m_waitsOn, .ref m_idleOn, .ref m_row, .int 0, .int 0, .long 0, .ref m_key, .int 0, .int 0, .int 0, .int 0, .int 0, .int 0, .int 0, .int 0, .ref m_coming, .int 0, .ref m_tried, .ref m_bestOrder, .int 0, .int 0, .ref m_before, .int 0, .ref m_open])), (m_lines, .inl (mk_lines, 5, .inl (fun _ => 0)))] H := hP
  have hD : va_D (fun q : Nat => s.heap.size ≤ q) [(mq, .inr (9, [.int 0, .ref m_width, .ref m_many, .ref m_cells, .ref m_moved, .ref m_tape, .int 0, .int 0, .int 0, .int 0, .int 0, .long 0, .int 0, .int 0, .int 0, .int (-1), .ref m_lines, .ref m_has, .ref m_person, .ref m_letter, .int 0, .ref m_isKept, .ref m_more, .int 0, .ref m_came, .ref m_answered, .ref m_left, .ref m_leftOn, .ref m_isBurnt, .ref m_heard, .ref m_waitsOn, .ref m_idleOn, .ref m_row, .int 0, .int 0, .long 0, .ref m_key, .int 0, .int 0, .int 0, .int 0, .int 0, .int 0, .int 0, .int 0, .ref m_coming, .int 0, .ref m_tried, .ref m_bestOrder, .int 0, .int 0, .ref m_before, .int 0, .ref m_open])), (m_lines, .inl (mk_lines, 5, .inl (fun _ => 0)))] := hD
  have hw : r_3 = (-2) := hw
  subst hw
  refine lv_aload_n hx hb dL_law_1283 rfl (lv_at hl 1 rfl) ?_
  refine lv_aload_n hx hb dL_law_1284 rfl (lv_at hl 3 rfl) ?_
  refine lv_iload_n hx hb dL_law_1285 rfl (lv_at hl 0 rfl) ?_
  refine lv_iconst (v := 1) hx hb dL_law_1286 (by decide) ?_
  refine lv_iadd hx hb dL_law_1287 ?_
  refine lv_topi (fun x_4 ex_4 => ?_)
  obtain rfl : x_4 = 1 := ex_4.trans (by decide +kernel)
  refine va_sld hx hb hX hbl hbA hS (show vp_in 1 6 from (by unfold vp_in; decide)) dL_law_1288 ?_
  refine lv_topi (fun x_5 ex_5 => ?_)
  obtain rfl : x_5 = xs 1 := ex_5.trans (congrArg xs (by decide))
  have hPc := hP.sub (ws' := [(mq, .inr (9, [.int 0, .ref m_width, .ref m_many, .ref m_cells, .ref m_moved, .ref m_tape, .int 0, .int 0, .int 0, .int 0, .int 0, .long 0, .int 0, .int 0, .int 0, .int (-1), .ref m_lines, .ref m_has, .ref m_person, .ref m_letter, .int 0, .ref m_isKept, .ref m_more, .int 0, .ref m_came, .ref m_answered, .ref m_left, .ref m_leftOn, .ref m_isBurnt, .ref m_heard, .ref m_waitsOn, .ref m_idleOn, .ref m_row, .int 0, .int 0, .long 0, .ref m_key, .int 0, .int 0, .int 0, .int 0, .int 0, .int 0, .int 0, .int 0, .ref m_coming, .int 0, .ref m_tried, .ref m_bestOrder, .int 0, .int 0, .ref m_before, .int 0, .ref m_open])), (m_lines, .inl (mk_lines, 5, .inl (fun _ => 0)))]) [0, 1] rfl
  have hDc := hD.sub (ws' := [(mq, .inr (9, [.int 0, .ref m_width, .ref m_many, .ref m_cells, .ref m_moved, .ref m_tape, .int 0, .int 0, .int 0, .int 0, .int 0, .long 0, .int 0, .int 0, .int 0, .int (-1), .ref m_lines, .ref m_has, .ref m_person, .ref m_letter, .int 0, .ref m_isKept, .ref m_more, .int 0, .ref m_came, .ref m_answered, .ref m_left, .ref m_leftOn, .ref m_isBurnt, .ref m_heard, .ref m_waitsOn, .ref m_idleOn, .ref m_row, .int 0, .int 0, .long 0, .ref m_key, .int 0, .int 0, .int 0, .int 0, .int 0, .int 0, .int 0, .int 0, .ref m_coming, .int 0, .ref m_tried, .ref m_bestOrder, .int 0, .int 0, .ref m_before, .int 0, .ref m_open])), (m_lines, .inl (mk_lines, 5, .inl (fun _ => 0)))]) [0, 1] (by decide) rfl
  have hKc := hK.sub (tys' := [(mk_lines, .int)]) [0] rfl
  have hFc := va_free (wc := [(mq, .inr (9, [.int 0, .ref m_width, .ref m_many, .ref m_cells, .ref m_moved, .ref m_tape, .int 0, .int 0, .int 0, .int 0, .int 0, .long 0, .int 0, .int 0, .int 0, .int (-1), .ref m_lines, .ref m_has, .ref m_person, .ref m_letter, .int 0, .ref m_isKept, .ref m_more, .int 0, .ref m_came, .ref m_answered, .ref m_left, .ref m_leftOn, .ref m_isBurnt, .ref m_heard, .ref m_waitsOn, .ref m_idleOn, .ref m_row, .int 0, .int 0, .long 0, .ref m_key, .int 0, .int 0, .int 0, .int 0, .int 0, .int 0, .int 0, .int 0, .ref m_coming, .int 0, .ref m_tried, .ref m_bestOrder, .int 0, .int 0, .ref m_before, .int 0, .ref m_open])), (m_lines, .inl (mk_lines, 5, .inl (fun _ => 0)))]) hD hS hA [0, 1] rfl
  refine va_calli (va_runV (As := [.int (xs 1)]) (rest := [.int (-2)]) ⟨hx, hb, hml, hown, hts⟩ (mc_instead l dC dI H.size mq m_width m_many m_cells m_moved m_tape m_lines m_has m_person m_letter m_isKept m_more m_came m_answered m_left m_leftOn m_isBurnt m_heard m_waitsOn m_idleOn m_row m_key m_coming m_tried m_bestOrder m_before m_open mk_lines ((xs 1)) ) (cwV 1 hts (goodV w_1231 w_1232 w_1233 w_5 w_1234) rfl rfl rfl hdV_X9_instead ⟨Nat.le_of_ble_eq_true rfl, Nat.le_of_ble_eq_true rfl⟩) ⟨fun a U g mk q => by obtain ⟨q0, q1, qP, qK, qD⟩ := q; exact ⟨q0, q1, qP, va_K.moved (u := U) (U := U.calling g mk a) (Vm.Alike.refl U.vm) qK, qD⟩, va_recv hKc hPc (ci := 9) (q0 := 0) rfl rfl, fun U hU hW => ⟨rfl, by rw [hU], by rw [hU]; exact hPc, va_K.moved hW.alike hKc, hDc.weaken (fun _ _ _ _ => trivial)⟩⟩ rfl rfl hl.1 rfl (lv_room (Nat.le_of_ble_eq_true rfl)) dL_law_1289 ⟨Nat.le_of_ble_eq_true rfl, Nat.le_of_ble_eq_true rfl⟩) hS (fun q _ h => hFc q h) hFc (fun r_6 u t H1 locs ht hvm hw hB hz1 hk1 hS => ?_)
  obtain ⟨hP, hD⟩ := va_join (wr := []) (w1 := []) hP hD [0, 1] [] rfl rfl (by decide) (by decide) hk1 hFc nilP nilD
  clear hPc hDc hKc hFc
  generalize H1 = H at hP hS ⊢
  have hP : va_P (dC, dI) vwCl [] H := hP
  have hD : va_D (fun q : Nat => s.heap.size ≤ q) [] := hD
  have hw : r_6 = (-2) := hw
  subst hw
  refine lv_icmp_eq (tgt := 1677) hx hb dL_law_1292 (by decide) (fun c_7 => ?_) (fun c_7 => absurd (by decide) c_7)
  exact law_tail C0 hS (lv_sub hl [0, 3] rfl)

set_option maxHeartbeats 4000000 in
set_option maxRecDepth 100000 in
theorem law_burn {p : Program} {l : Launch} {e : Env} {s : State} {m : MethodId} {below : List Frame} {meth : Method} {c : Code} {dC : Nat → ClassId} {dI : Nat → Nat → Nat} {b : Nat} {xs : Nat → Int32} {H : Heap} {locs : List Loc} {ls : Array Slot} {x_tape : Nat} {x_reader : Nat} {x_current : Nat} {x_images : Nat} {x_kept : Nat} {x_slots : Nat} {x_diary : Nat} {x_base : Nat} {x_trial : Nat} {x_plan : Nat} {x_orders : Nat} {x_unanswered : Nat} {t0 : Nat} {t1 : Nat} {t2 : Nat} {t3 : Nat} {t4 : Nat} {t5 : Nat} {t6 : Nat} {t7 : Nat} {t8 : Nat} {t9 : Nat} {m_width : Nat} {m_many : Nat} {m_cells : Nat} {m_moved : Nat} {m_tape : Nat} {m_lines : Nat} {m_has : Nat} {m_person : Nat} {m_letter : Nat} {m_isKept : Nat} {m_more : Nat} {m_came : Nat} {m_answered : Nat} {m_left : Nat} {m_leftOn : Nat} {m_isBurnt : Nat} {m_heard : Nat} {m_waitsOn : Nat} {m_idleOn : Nat} {m_row : Nat} {m_key : Nat} {m_coming : Nat} {m_tried : Nat} {m_bestOrder : Nat} {m_before : Nat} {m_open : Nat} {mk_has : ClassId} {xq : Nat} {mq : Nat} (C0 : lw_At p s m meth c b 6 xs)  (hK : va_K (dC, dI) vwCl [(mk_has, .int)] s) (hP : va_P (dC, dI) vwCl [(xq, .inr (8, [.ref x_tape, .ref x_reader, .ref x_current, .ref x_images, .ref x_kept, .ref x_slots, .ref x_diary, .ref x_base, .ref x_trial, .ref x_plan, .ref x_orders, .ref x_unanswered, .int 0, .int 0, .int (-1)])), (x_current, .inr (7, [.int 0, .int 0, .int 0, .int 0, .int 0, .int 0, .int 0, .int 0, .ref t0, .ref t1, .ref t2, .ref t3, .ref t4, .ref t5, .ref t6, .ref t7, .ref t8, .ref t9])), (mq, .inr (9, [.int 0, .ref m_width, .ref m_many, .ref m_cells, .ref m_moved, .ref m_tape, .int 0, .int 0, .int 0, .int 0, .int 0, .long 0, .int 0, .int 0, .int 0, .int (-1), .ref m_lines, .ref m_has, .ref m_person, .ref m_letter, .int 0, .ref m_isKept, .ref m_more, .int 0, .ref m_came, .ref m_answered, .ref m_left, .ref m_leftOn, .ref m_isBurnt, .ref m_heard, .ref m_waitsOn, .ref m_idleOn, .ref m_row, .int 0, .int 0, .long 0, .ref m_key, .int 0, .int 0, .int 0, .int 0, .int 0, .int 0, .int 0, .int 0, .ref m_coming, .int 0, .ref m_tried, .ref m_bestOrder, .int 0, .int 0, .ref m_before, .int 0, .ref m_open])), (m_has, .inl (mk_has, 30, .inl (fun _ => 0)))] H) (hD : va_D (fun q : Nat => s.heap.size ≤ q) [(xq, .inr (8, [.ref x_tape, .ref x_reader, .ref x_current, .ref x_images, .ref x_kept, .ref x_slots, .ref x_diary, .ref x_base, .ref x_trial, .ref x_plan, .ref x_orders, .ref x_unanswered, .int 0, .int 0, .int (-1)])), (x_current, .inr (7, [.int 0, .int 0, .int 0, .int 0, .int 0, .int 0, .int 0, .int 0, .ref t0, .ref t1, .ref t2, .ref t3, .ref t4, .ref t5, .ref t6, .ref t7, .ref t8, .ref t9])), (mq, .inr (9, [.int 0, .ref m_width, .ref m_many, .ref m_cells, .ref m_moved, .ref m_tape, .int 0, .int 0, .int 0, .int 0, .int 0, .long 0, .int 0, .int 0, .int 0, .int (-1), .ref m_lines, .ref m_has, .ref m_person, .ref m_letter, .int 0, .ref m_isKept, .ref m_more, .int 0, .ref m_came, .ref m_answered, .ref m_left, .ref m_leftOn, .ref m_isBurnt, .ref m_heard, .ref m_waitsOn, .ref m_idleOn, .ref m_row, .int 0, .int 0, .long 0, .ref m_key, .int 0, .int 0, .int 0, .int 0, .int 0, .int 0, .int 0, .int 0, .ref m_coming, .int 0, .ref m_tried, .ref m_bestOrder, .int 0, .int 0, .ref m_before, .int 0, .ref m_open])), (m_has, .inl (mk_has, 30, .inl (fun _ => 0)))]) (hS : va_S (fun q : Nat => s.heap.size ≤ q) s.heap H locs) (hl : lv_has ls 4 [(3, .int 0), (2, .ref mq), (1, .ref xq), (0, .ref b)]) : W p l e room_1 s m #[Value.ref b] below meth c H locs 144 16687 (lw_Z below #[Value.ref b] s) (F0 m 1297 ls []) := by
  obtain ⟨hx, hb, hr, hml, hown, hts0, hX, hbl, hlocks, hgv⟩ := id C0
  have hts : ∀ w ∈ ALLW, w.before #[Value.ref b] s = true := fun w h => hts0 w (inT w h)
  have hA : ∀ q : Nat, s.heap.size ≤ q → (fun q : Nat => s.heap.size ≤ q) q := fun _ h => h
  have hbA : ¬ (fun q : Nat => s.heap.size ≤ q) b := Nat.not_le.mpr hbl
  refine lv_aload_n hx hb dL_law_1297 rfl (lv_at hl 2 rfl) ?_
  refine lv_aload_n hx hb dL_law_1298 rfl (lv_at hl 3 rfl) ?_
  refine lv_iload_n hx hb dL_law_1299 rfl (lv_at hl 0 rfl) ?_
  refine lv_iconst (v := 1) hx hb dL_law_1300 (by decide) ?_
  refine lv_iadd hx hb dL_law_1301 ?_
  refine lv_topi (fun x_1 ex_1 => ?_)
  obtain rfl : x_1 = 1 := ex_1.trans (by decide +kernel)
  refine va_sld hx hb hX hbl hbA hS (show vp_in 1 6 from (by unfold vp_in; decide)) dL_law_1302 ?_
  refine lv_topi (fun x_2 ex_2 => ?_)
  obtain rfl : x_2 = xs 1 := ex_2.trans (congrArg xs (by decide))
  refine lv_aload_n hx hb dL_law_1303 rfl (lv_at hl 3 rfl) ?_
  refine lv_iload_n hx hb dL_law_1304 rfl (lv_at hl 0 rfl) ?_
  refine lv_iconst (v := 2) hx hb dL_law_1305 (by decide) ?_
  refine lv_iadd hx hb dL_law_1306 ?_
  refine lv_topi (fun x_3 ex_3 => ?_)
  obtain rfl : x_3 = 2 := ex_3.trans (by decide +kernel)
  refine va_sld hx hb hX hbl hbA hS (show vp_in 2 6 from (by unfold vp_in; decide)) dL_law_1307 ?_
  refine lv_topi (fun x_4 ex_4 => ?_)
  obtain rfl : x_4 = xs 2 := ex_4.trans (congrArg xs (by decide))
  have hPc := hP.sub (ws' := [(xq, .inr (8, [.ref x_tape, .ref x_reader, .ref x_current, .ref x_images, .ref x_kept, .ref x_slots, .ref x_diary, .ref x_base, .ref x_trial, .ref x_plan, .ref x_orders, .ref x_unanswered, .int 0, .int 0, .int (-1)])), (x_current, .inr (7, [.int 0, .int 0, .int 0, .int 0, .int 0, .int 0, .int 0, .int 0, .ref t0, .ref t1, .ref t2, .ref t3, .ref t4, .ref t5, .ref t6, .ref t7, .ref t8, .ref t9]))]) [0, 1] rfl
  have hDc := hD.sub (ws' := [(xq, .inr (8, [.ref x_tape, .ref x_reader, .ref x_current, .ref x_images, .ref x_kept, .ref x_slots, .ref x_diary, .ref x_base, .ref x_trial, .ref x_plan, .ref x_orders, .ref x_unanswered, .int 0, .int 0, .int (-1)])), (x_current, .inr (7, [.int 0, .int 0, .int 0, .int 0, .int 0, .int 0, .int 0, .int 0, .ref t0, .ref t1, .ref t2, .ref t3, .ref t4, .ref t5, .ref t6, .ref t7, .ref t8, .ref t9]))]) [0, 1] (by decide) rfl
  have hKc := hK.sub (tys' := []) [] rfl
  have hFc := va_free (wc := [(xq, .inr (8, [.ref x_tape, .ref x_reader, .ref x_current, .ref x_images, .ref x_kept, .ref x_slots, .ref x_diary, .ref x_base, .ref x_trial, .ref x_plan, .ref x_orders, .ref x_unanswered, .int 0, .int 0, .int (-1)])), (x_current, .inr (7, [.int 0, .int 0, .int 0, .int 0, .int 0, .int 0, .int 0, .int 0, .ref t0, .ref t1, .ref t2, .ref t3, .ref t4, .ref t5, .ref t6, .ref t7, .ref t8, .ref t9]))]) hD hS hA [0, 1] rfl
  refine va_calli (va_runV (As := [.int (xs 1), .int (xs 2)]) (rest := []) ⟨hx, hb, hml, hown, hts⟩ (x_burn l dC dI H.size xq x_tape x_reader x_current x_images x_kept x_slots x_diary x_base x_trial x_plan x_orders x_unanswered t0 t1 t2 t3 t4 t5 t6 t7 t8 t9 ((xs 1)) ((xs 2)) ) (cwV 2 hts (goodV w_1235 w_1236 w_1237 w_2 w_1238) rfl rfl rfl hdV_X8_burn ⟨Nat.le_of_ble_eq_true rfl, Nat.le_of_ble_eq_true rfl⟩) ⟨fun a U g mk q => by obtain ⟨q0, q1, qP, qK, qD⟩ := q; exact ⟨q0, q1, qP, va_K.moved (u := U) (U := U.calling g mk a) (Vm.Alike.refl U.vm) qK, qD⟩, va_recv hKc hPc (ci := 8) (q0 := 0) rfl rfl, fun U hU hW => ⟨rfl, by rw [hU], by rw [hU]; exact hPc, va_K.moved hW.alike hKc, hDc.weaken (fun _ _ _ _ => trivial)⟩⟩ rfl rfl hl.1 rfl (lv_room (Nat.le_of_ble_eq_true rfl)) dL_law_1308 ⟨Nat.le_of_ble_eq_true rfl, Nat.le_of_ble_eq_true rfl⟩) hS (fun q _ h => hFc q h) hFc (fun r_5 u t H1 locs ht hvm hw hB hz1 hk1 hS => ?_)
  obtain ⟨hP, hD⟩ := va_join (wr := [(mq, .inr (9, [.int 0, .ref m_width, .ref m_many, .ref m_cells, .ref m_moved, .ref m_tape, .int 0, .int 0, .int 0, .int 0, .int 0, .long 0, .int 0, .int 0, .int 0, .int (-1), .ref m_lines, .ref m_has, .ref m_person, .ref m_letter, .int 0, .ref m_isKept, .ref m_more, .int 0, .ref m_came, .ref m_answered, .ref m_left, .ref m_leftOn, .ref m_isBurnt, .ref m_heard, .ref m_waitsOn, .ref m_idleOn, .ref m_row, .int 0, .int 0, .long 0, .ref m_key, .int 0, .int 0, .int 0, .int 0, .int 0, .int 0, .int 0, .int 0, .ref m_coming, .int 0, .ref m_tried, .ref m_bestOrder, .int 0, .int 0, .ref m_before, .int 0, .ref m_open])), (m_has, .inl (mk_has, 30, .inl (fun _ => 0)))]) (w1 := []) hP hD [0, 1] [2, 3] rfl rfl (by decide) (by decide) hk1 hFc nilP nilD
  clear hPc hDc hKc hFc
  generalize H1 = H at hP hS ⊢
  have hP : va_P (dC, dI) vwCl [(mq, .inr (9, [.int 0, .ref m_width, .ref m_many, .ref m_cells, .ref m_moved, .ref m_tape, .int 0, .int 0, .int 0, .int 0, .int 0, .long 0, .int 0, .int 0, .int 0, .int (-1), .ref m_lines, .ref m_has, .ref m_person, .ref m_letter, .int 0, .ref m_isKept, .ref m_more, .int 0, .ref m_came, .ref m_answered, .ref m_left, .ref m_leftOn, .ref m_isBurnt, .ref m_heard, .ref m_waitsOn, .ref m_idleOn, .ref m_row, .int 0, .int 0, .long 0, .ref m_key, .int 0, .int 0, .int 0, .int 0, .int 0, .int 0, .int 0, .int 0, .ref m_coming, .int 0, .ref m_tried, .ref m_bestOrder, .int 0, .int 0, .ref m_before, .int 0, .ref m_open])), (m_has, .inl (mk_has, 30, .inl (fun _ => 0)))] H := hP
  have hD : va_D (fun q : Nat => s.heap.size ≤ q) [(mq, .inr (9, [.int 0, .ref m_width, .ref m_many, .ref m_cells, .ref m_moved, .ref m_tape, .int 0, .int 0, .int 0, .int 0, .int 0, .long 0, .int 0, .int 0, .int 0, .int (-1), .ref m_lines, .ref m_has, .ref m_person, .ref m_letter, .int 0, .ref m_isKept, .ref m_more, .int 0, .ref m_came, .ref m_answered, .ref m_left, .ref m_leftOn, .ref m_isBurnt, .ref m_heard, .ref m_waitsOn, .ref m_idleOn, .ref m_row, .int 0, .int 0, .long 0, .ref m_key, .int 0, .int 0, .int 0, .int 0, .int 0, .int 0, .int 0, .int 0, .ref m_coming, .int 0, .ref m_tried, .ref m_bestOrder, .int 0, .int 0, .ref m_before, .int 0, .ref m_open])), (m_has, .inl (mk_has, 30, .inl (fun _ => 0)))] := hD
  have hw : r_5 = (-2) := hw
  subst hw
  refine lv_aload_n hx hb dL_law_1311 rfl (lv_at hl 1 rfl) ?_
  refine lv_aload_n hx hb dL_law_1312 rfl (lv_at hl 3 rfl) ?_
  refine lv_iload_n hx hb dL_law_1313 rfl (lv_at hl 0 rfl) ?_
  refine lv_iconst (v := 1) hx hb dL_law_1314 (by decide) ?_
  refine lv_iadd hx hb dL_law_1315 ?_
  refine lv_topi (fun x_6 ex_6 => ?_)
  obtain rfl : x_6 = 1 := ex_6.trans (by decide +kernel)
  refine va_sld hx hb hX hbl hbA hS (show vp_in 1 6 from (by unfold vp_in; decide)) dL_law_1316 ?_
  refine lv_topi (fun x_7 ex_7 => ?_)
  obtain rfl : x_7 = xs 1 := ex_7.trans (congrArg xs (by decide))
  refine lv_aload_n hx hb dL_law_1317 rfl (lv_at hl 3 rfl) ?_
  refine lv_iload_n hx hb dL_law_1318 rfl (lv_at hl 0 rfl) ?_
  refine lv_iconst (v := 2) hx hb dL_law_1319 (by decide) ?_
  refine lv_iadd hx hb dL_law_1320 ?_
  refine lv_topi (fun x_8 ex_8 => ?_)
  obtain rfl : x_8 = 2 := ex_8.trans (by decide +kernel)
  refine va_sld hx hb hX hbl hbA hS (show vp_in 2 6 from (by unfold vp_in; decide)) dL_law_1321 ?_
  refine lv_topi (fun x_9 ex_9 => ?_)
  obtain rfl : x_9 = xs 2 := ex_9.trans (congrArg xs (by decide))
  have hPc := hP.sub (ws' := [(mq, .inr (9, [.int 0, .ref m_width, .ref m_many, .ref m_cells, .ref m_moved, .ref m_tape, .int 0, .int 0, .int 0, .int 0, .int 0, .long 0, .int 0, .int 0, .int 0, .int (-1), .ref m_lines, .ref m_has, .ref m_person, .ref m_letter, .int 0, .ref m_isKept, .ref m_more, .int 0, .ref m_came, .ref m_answered, .ref m_left, .ref m_leftOn, .ref m_isBurnt, .ref m_heard, .ref m_waitsOn, .ref m_idleOn, .ref m_row, .int 0, .int 0, .long 0, .ref m_key, .int 0, .int 0, .int 0, .int 0, .int 0, .int 0, .int 0, .int 0, .ref m_coming, .int 0, .ref m_tried, .ref m_bestOrder, .int 0, .int 0, .ref m_before, .int 0, .ref m_open])), (m_has, .inl (mk_has, 30, .inl (fun _ => 0)))]) [0, 1] rfl
  have hDc := hD.sub (ws' := [(mq, .inr (9, [.int 0, .ref m_width, .ref m_many, .ref m_cells, .ref m_moved, .ref m_tape, .int 0, .int 0, .int 0, .int 0, .int 0, .long 0, .int 0, .int 0, .int 0, .int (-1), .ref m_lines, .ref m_has, .ref m_person, .ref m_letter, .int 0, .ref m_isKept, .ref m_more, .int 0, .ref m_came, .ref m_answered, .ref m_left, .ref m_leftOn, .ref m_isBurnt, .ref m_heard, .ref m_waitsOn, .ref m_idleOn, .ref m_row, .int 0, .int 0, .long 0, .ref m_key, .int 0, .int 0, .int 0, .int 0, .int 0, .int 0, .int 0, .int 0, .ref m_coming, .int 0, .ref m_tried, .ref m_bestOrder, .int 0, .int 0, .ref m_before, .int 0, .ref m_open])), (m_has, .inl (mk_has, 30, .inl (fun _ => 0)))]) [0, 1] (by decide) rfl
  have hKc := hK.sub (tys' := [(mk_has, .int)]) [0] rfl
  have hFc := va_free (wc := [(mq, .inr (9, [.int 0, .ref m_width, .ref m_many, .ref m_cells, .ref m_moved, .ref m_tape, .int 0, .int 0, .int 0, .int 0, .int 0, .long 0, .int 0, .int 0, .int 0, .int (-1), .ref m_lines, .ref m_has, .ref m_person, .ref m_letter, .int 0, .ref m_isKept, .ref m_more, .int 0, .ref m_came, .ref m_answered, .ref m_left, .ref m_leftOn, .ref m_isBurnt, .ref m_heard, .ref m_waitsOn, .ref m_idleOn, .ref m_row, .int 0, .int 0, .long 0, .ref m_key, .int 0, .int 0, .int 0, .int 0, .int 0, .int 0, .int 0, .int 0, .ref m_coming, .int 0, .ref m_tried, .ref m_bestOrder, .int 0, .int 0, .ref m_before, .int 0, .ref m_open])), (m_has, .inl (mk_has, 30, .inl (fun _ => 0)))]) hD hS hA [0, 1] rfl
  refine va_calli (va_runV (As := [.int (xs 1), .int (xs 2)]) (rest := [.int (-2)]) ⟨hx, hb, hml, hown, hts⟩ (mc_burn l dC dI H.size mq m_width m_many m_cells m_moved m_tape m_lines m_has m_person m_letter m_isKept m_more m_came m_answered m_left m_leftOn m_isBurnt m_heard m_waitsOn m_idleOn m_row m_key m_coming m_tried m_bestOrder m_before m_open mk_has ((xs 1)) ((xs 2)) ) (cwV 2 hts (goodV w_1243 w_1244 w_1245 w_5 w_1246) rfl rfl rfl hdV_X9_burn ⟨Nat.le_of_ble_eq_true rfl, Nat.le_of_ble_eq_true rfl⟩) ⟨fun a U g mk q => by obtain ⟨q0, q1, qP, qK, qD⟩ := q; exact ⟨q0, q1, qP, va_K.moved (u := U) (U := U.calling g mk a) (Vm.Alike.refl U.vm) qK, qD⟩, va_recv hKc hPc (ci := 9) (q0 := 0) rfl rfl, fun U hU hW => ⟨rfl, by rw [hU], by rw [hU]; exact hPc, va_K.moved hW.alike hKc, hDc.weaken (fun _ _ _ _ => trivial)⟩⟩ rfl rfl hl.1 rfl (lv_room (Nat.le_of_ble_eq_true rfl)) dL_law_1322 ⟨Nat.le_of_ble_eq_true rfl, Nat.le_of_ble_eq_true rfl⟩) hS (fun q _ h => hFc q h) hFc (fun r_10 u t H1 locs ht hvm hw hB hz1 hk1 hS => ?_)
  obtain ⟨hP, hD⟩ := va_join (wr := []) (w1 := []) hP hD [0, 1] [] rfl rfl (by decide) (by decide) hk1 hFc nilP nilD
  clear hPc hDc hKc hFc
  generalize H1 = H at hP hS ⊢
  have hP : va_P (dC, dI) vwCl [] H := hP
  have hD : va_D (fun q : Nat => s.heap.size ≤ q) [] := hD
  have hw : r_10 = (-2) := hw
  subst hw
  refine lv_icmp_eq (tgt := 1677) hx hb dL_law_1325 (by decide) (fun c_11 => ?_) (fun c_11 => absurd (by decide) c_11)
  exact law_tail C0 hS (lv_sub hl [0, 3] rfl)
