set_option maxHeartbeats 4000000 in
set_option maxRecDepth 100000 in
theorem law_pasteO2 {p : Program} {l : Launch} {e : Env} {s : State} {m : MethodId} {below : List Frame} {meth : Method} {c : Code} {dC : Nat → ClassId} {dI : Nat → Nat → Nat} {b : Nat} {xs : Nat → Int32} {H : Heap} {locs : List Loc} {ls : Array Slot} {x_tape : Nat} {x_reader : Nat} {x_current : Nat} {x_images : Nat} {x_kept : Nat} {x_slots : Nat} {x_diary : Nat} {x_base : Nat} {x_trial : Nat} {x_plan : Nat} {x_orders : Nat} {x_unanswered : Nat} {m_width : Nat} {m_many : Nat} {m_cells : Nat} {m_moved : Nat} {m_tape : Nat} {m_lines : Nat} {m_has : Nat} {m_person : Nat} {m_letter : Nat} {m_isKept : Nat} {m_more : Nat} {m_came : Nat} {m_answered : Nat} {m_left : Nat} {m_leftOn : Nat} {m_isBurnt : Nat} {m_heard : Nat} {m_waitsOn : Nat} {m_idleOn : Nat} {m_row : Nat} {m_key : Nat} {m_coming : Nat} {m_tried : Nat} {m_bestOrder : Nat} {m_before : Nat} {m_open : Nat} {xq : Nat} {mq : Nat} (C0 : lw_At p s m meth c b 6 xs) (h1 : xs 1 = 2) (h3 : (xs 3).toInt < 0 ∨ 4 ≤ (xs 3).toInt) (hK : va_K (dC, dI) vwCl [] s) (hP : va_P (dC, dI) vwCl [(xq, .inr (8, [.ref x_tape, .ref x_reader, .ref x_current, .ref x_images, .ref x_kept, .ref x_slots, .ref x_diary, .ref x_base, .ref x_trial, .ref x_plan, .ref x_orders, .ref x_unanswered, .int 0, .int 0, .int (-1)])), (mq, .inr (9, [.int 0, .ref m_width, .ref m_many, .ref m_cells, .ref m_moved, .ref m_tape, .int 0, .int 0, .int 0, .int 0, .int 0, .long 0, .int 0, .int 0, .int 0, .int (-1), .ref m_lines, .ref m_has, .ref m_person, .ref m_letter, .int 0, .ref m_isKept, .ref m_more, .int 0, .ref m_came, .ref m_answered, .ref m_left, .ref m_leftOn, .ref m_isBurnt, .ref m_heard, .ref m_waitsOn, .ref m_idleOn, .ref m_row, .int 0, .int 0, .long 0, .ref m_key, .int 0, .int 0, .int 0, .int 0, .int 0, .int 0, .int 0, .int 0, .ref m_coming, .int 0, .ref m_tried, .ref m_bestOrder, .int 0, .int 0, .ref m_before, .int 0, .ref m_open]))] H) (hD : va_D (fun q : Nat => s.heap.size ≤ q) [(xq, .inr (8, [.ref x_tape, .ref x_reader, .ref x_current, .ref x_images, .ref x_kept, .ref x_slots, .ref x_diary, .ref x_base, .ref x_trial, .ref x_plan, .ref x_orders, .ref x_unanswered, .int 0, .int 0, .int (-1)])), (mq, .inr (9, [.int 0, .ref m_width, .ref m_many, .ref m_cells, .ref m_moved, .ref m_tape, .int 0, .int 0, .int 0, .int 0, .int 0, .long 0, .int 0, .int 0, .int 0, .int (-1), .ref m_lines, .ref m_has, .ref m_person, .ref m_letter, .int 0, .ref m_isKept, .ref m_more, .int 0, .ref m_came, .ref m_answered, .ref m_left, .ref m_leftOn, .ref m_isBurnt, .ref m_heard, .ref m_waitsOn, .ref m_idleOn, .ref m_row, .int 0, .int 0, .long 0, .ref m_key, .int 0, .int 0, .int 0, .int 0, .int 0, .int 0, .int 0, .int 0, .ref m_coming, .int 0, .ref m_tried, .ref m_bestOrder, .int 0, .int 0, .ref m_before, .int 0, .ref m_open]))]) (hS : va_S (fun q : Nat => s.heap.size ≤ q) s.heap H locs) (hl : lv_has ls 4 [(3, .int 0), (2, .ref mq), (1, .ref xq), (0, .ref b)]) : W p l e room_1 s m #[Value.ref b] below meth c H locs 144 16687 (lw_Z below #[Value.ref b] s) (F0 m 1614 ls []) := by
  obtain ⟨hx, hb, hr, hml, hown, hts0, hX, hbl, hlocks, hgv⟩ := id C0
  have hts : ∀ w ∈ ALLW, w.before #[Value.ref b] s = true := fun w h => hts0 w (inT w h)
  have hA : ∀ q : Nat, s.heap.size ≤ q → (fun q : Nat => s.heap.size ≤ q) q := fun _ h => h
  have hbA : ¬ (fun q : Nat => s.heap.size ≤ q) b := Nat.not_le.mpr hbl
  refine lv_aload_n hx hb dL_law_1614 rfl (lv_at hl 2 rfl) ?_
  refine lv_aload_n hx hb dL_law_1615 rfl (lv_at hl 3 rfl) ?_
  refine lv_iload_n hx hb dL_law_1616 rfl (lv_at hl 0 rfl) ?_
  refine lv_iconst (v := 1) hx hb dL_law_1617 (by decide) ?_
  refine lv_iadd hx hb dL_law_1618 ?_
  refine lv_topi (fun x_1 ex_1 => ?_)
  obtain rfl : x_1 = 1 := ex_1.trans (by decide +kernel)
  refine va_sld hx hb hX hbl hbA hS (show vp_in 1 6 from (by unfold vp_in; decide)) dL_law_1619 ?_
  refine lv_topi (fun x_2 ex_2 => ?_)
  obtain rfl : x_2 = 2 := ex_2.trans ((congrArg xs (by decide)).trans h1)
  refine lv_aload_n hx hb dL_law_1620 rfl (lv_at hl 3 rfl) ?_
  refine lv_iload_n hx hb dL_law_1621 rfl (lv_at hl 0 rfl) ?_
  refine lv_iconst (v := 2) hx hb dL_law_1622 (by decide) ?_
  refine lv_iadd hx hb dL_law_1623 ?_
  refine lv_topi (fun x_3 ex_3 => ?_)
  obtain rfl : x_3 = 2 := ex_3.trans (by decide +kernel)
  refine va_sld hx hb hX hbl hbA hS (show vp_in 2 6 from (by unfold vp_in; decide)) dL_law_1624 ?_
  refine lv_topi (fun x_4 ex_4 => ?_)
  obtain rfl : x_4 = xs 2 := ex_4.trans (congrArg xs (by decide))
  refine lv_aload_n hx hb dL_law_1625 rfl (lv_at hl 3 rfl) ?_
  refine lv_iload_n hx hb dL_law_1626 rfl (lv_at hl 0 rfl) ?_
  refine lv_iconst (v := 3) hx hb dL_law_1627 (by decide) ?_
  refine lv_iadd hx hb dL_law_1628 ?_
  refine lv_topi (fun x_5 ex_5 => ?_)
  obtain rfl : x_5 = 3 := ex_5.trans (by decide +kernel)
  refine va_sld hx hb hX hbl hbA hS (show vp_in 3 6 from (by unfold vp_in; decide)) dL_law_1629 ?_
  refine lv_topi (fun x_6 ex_6 => ?_)
  obtain rfl : x_6 = xs 3 := ex_6.trans (congrArg xs (by decide))
  refine lv_aload_n hx hb dL_law_1630 rfl (lv_at hl 3 rfl) ?_
  refine lv_iload_n hx hb dL_law_1631 rfl (lv_at hl 0 rfl) ?_
  refine lv_iconst (v := 4) hx hb dL_law_1632 (by decide) ?_
  refine lv_iadd hx hb dL_law_1633 ?_
  refine lv_topi (fun x_7 ex_7 => ?_)
  obtain rfl : x_7 = 4 := ex_7.trans (by decide +kernel)
  refine va_sld hx hb hX hbl hbA hS (show vp_in 4 6 from (by unfold vp_in; decide)) dL_law_1634 ?_
  refine lv_topi (fun x_8 ex_8 => ?_)
  obtain rfl : x_8 = xs 4 := ex_8.trans (congrArg xs (by decide))
  refine lv_aload_n hx hb dL_law_1635 rfl (lv_at hl 3 rfl) ?_
  refine lv_iload_n hx hb dL_law_1636 rfl (lv_at hl 0 rfl) ?_
  refine lv_iconst (v := 5) hx hb dL_law_1637 (by decide) ?_
  refine lv_iadd hx hb dL_law_1638 ?_
  refine lv_topi (fun x_9 ex_9 => ?_)
  obtain rfl : x_9 = 5 := ex_9.trans (by decide +kernel)
  refine va_sld hx hb hX hbl hbA hS (show vp_in 5 6 from (by unfold vp_in; decide)) dL_law_1639 ?_
  refine lv_topi (fun x_10 ex_10 => ?_)
  obtain rfl : x_10 = xs 5 := ex_10.trans (congrArg xs (by decide))
  have hPc := hP.sub (ws' := [(xq, .inr (8, [.ref x_tape, .ref x_reader, .ref x_current, .ref x_images, .ref x_kept, .ref x_slots, .ref x_diary, .ref x_base, .ref x_trial, .ref x_plan, .ref x_orders, .ref x_unanswered, .int 0, .int 0, .int (-1)]))]) [0] rfl
  have hDc := hD.sub (ws' := [(xq, .inr (8, [.ref x_tape, .ref x_reader, .ref x_current, .ref x_images, .ref x_kept, .ref x_slots, .ref x_diary, .ref x_base, .ref x_trial, .ref x_plan, .ref x_orders, .ref x_unanswered, .int 0, .int 0, .int (-1)]))]) [0] (by decide) rfl
  have hKc := hK.sub (tys' := []) [] rfl
  have hFc := va_free (wc := [(xq, .inr (8, [.ref x_tape, .ref x_reader, .ref x_current, .ref x_images, .ref x_kept, .ref x_slots, .ref x_diary, .ref x_base, .ref x_trial, .ref x_plan, .ref x_orders, .ref x_unanswered, .int 0, .int 0, .int (-1)]))]) hD hS hA [0] rfl
  have z_11 : (2 : Int32).toInt = 2 := by decide
  refine va_calli (va_runV (As := [.int 2, .int (xs 2), .int (xs 3), .int (xs 4), .int (xs 5)]) (rest := []) ⟨hx, hb, hml, hown, hts⟩ (x_pasteO2 l dC dI H.size xq x_tape x_reader x_current x_images x_kept x_slots x_diary x_base x_trial x_plan x_orders x_unanswered ((xs 2)) ((xs 3)) ((xs 4)) ((xs 5)) h3) (cwV 5 hts (goodV w_1358 w_1359 w_1360 w_2 w_1361) rfl rfl rfl hdV_X8_paste ⟨Nat.le_of_ble_eq_true rfl, Nat.le_of_ble_eq_true rfl⟩) ⟨fun a U g mk q => by obtain ⟨q0, q1, qP, qK, qD⟩ := q; exact ⟨q0, q1, qP, va_K.moved (u := U) (U := U.calling g mk a) (Vm.Alike.refl U.vm) qK, qD⟩, va_recv hKc hPc (ci := 8) (q0 := 0) rfl rfl, fun U hU hW => ⟨rfl, by rw [hU], by rw [hU]; exact hPc, va_K.moved hW.alike hKc, hDc.weaken (fun _ _ _ _ => trivial)⟩⟩ rfl rfl hl.1 rfl (lv_room (Nat.le_of_ble_eq_true rfl)) dL_law_1640 ⟨Nat.le_of_ble_eq_true rfl, Nat.le_of_ble_eq_true rfl⟩) hS (fun q _ h => hFc q h) hFc (fun r_12 u t H1 locs ht hvm hw hB hz1 hk1 hS => ?_)
  obtain ⟨hP, hD⟩ := va_join (wr := [(mq, .inr (9, [.int 0, .ref m_width, .ref m_many, .ref m_cells, .ref m_moved, .ref m_tape, .int 0, .int 0, .int 0, .int 0, .int 0, .long 0, .int 0, .int 0, .int 0, .int (-1), .ref m_lines, .ref m_has, .ref m_person, .ref m_letter, .int 0, .ref m_isKept, .ref m_more, .int 0, .ref m_came, .ref m_answered, .ref m_left, .ref m_leftOn, .ref m_isBurnt, .ref m_heard, .ref m_waitsOn, .ref m_idleOn, .ref m_row, .int 0, .int 0, .long 0, .ref m_key, .int 0, .int 0, .int 0, .int 0, .int 0, .int 0, .int 0, .int 0, .ref m_coming, .int 0, .ref m_tried, .ref m_bestOrder, .int 0, .int 0, .ref m_before, .int 0, .ref m_open]))]) (w1 := []) hP hD [0] [1] rfl rfl (by decide) (by decide) hk1 hFc nilP nilD
  clear hPc hDc hKc hFc
  generalize H1 = H at hP hS ⊢
  have hP : va_P (dC, dI) vwCl [(mq, .inr (9, [.int 0, .ref m_width, .ref m_many, .ref m_cells, .ref m_moved, .ref m_tape, .int 0, .int 0, .int 0, .int 0, .int 0, .long 0, .int 0, .int 0, .int 0, .int (-1), .ref m_lines, .ref m_has, .ref m_person, .ref m_letter, .int 0, .ref m_isKept, .ref m_more, .int 0, .ref m_came, .ref m_answered, .ref m_left, .ref m_leftOn, .ref m_isBurnt, .ref m_heard, .ref m_waitsOn, .ref m_idleOn, .ref m_row, .int 0, .int 0, .long 0, .ref m_key, .int 0, .int 0, .int 0, .int 0, .int 0, .int 0, .int 0, .int 0, .ref m_coming, .int 0, .ref m_tried, .ref m_bestOrder, .int 0, .int 0, .ref m_before, .int 0, .ref m_open]))] H := hP
  have hD : va_D (fun q : Nat => s.heap.size ≤ q) [(mq, .inr (9, [.int 0, .ref m_width, .ref m_many, .ref m_cells, .ref m_moved, .ref m_tape, .int 0, .int 0, .int 0, .int 0, .int 0, .long 0, .int 0, .int 0, .int 0, .int (-1), .ref m_lines, .ref m_has, .ref m_person, .ref m_letter, .int 0, .ref m_isKept, .ref m_more, .int 0, .ref m_came, .ref m_answered, .ref m_left, .ref m_leftOn, .ref m_isBurnt, .ref m_heard, .ref m_waitsOn, .ref m_idleOn, .ref m_row, .int 0, .int 0, .long 0, .ref m_key, .int 0, .int 0, .int 0, .int 0, .int 0, .int 0, .int 0, .int 0, .ref m_coming, .int 0, .ref m_tried, .ref m_bestOrder, .int 0, .int 0, .ref m_before, .int 0, .ref m_open]))] := hD
  have hw : r_12 = (-2) := hw
  subst hw
  refine lv_aload_n hx hb dL_law_1643 rfl (lv_at hl 1 rfl) ?_
  refine lv_aload_n hx hb dL_law_1644 rfl (lv_at hl 3 rfl) ?_
  refine lv_iload_n hx hb dL_law_1645 rfl (lv_at hl 0 rfl) ?_
  refine lv_iconst (v := 1) hx hb dL_law_1646 (by decide) ?_
  refine lv_iadd hx hb dL_law_1647 ?_
  refine lv_topi (fun x_13 ex_13 => ?_)
  obtain rfl : x_13 = 1 := ex_13.trans (by decide +kernel)
  refine va_sld hx hb hX hbl hbA hS (show vp_in 1 6 from (by unfold vp_in; decide)) dL_law_1648 ?_
  refine lv_topi (fun x_14 ex_14 => ?_)
  obtain rfl : x_14 = 2 := ex_14.trans ((congrArg xs (by decide)).trans h1)
  refine lv_aload_n hx hb dL_law_1649 rfl (lv_at hl 3 rfl) ?_
  refine lv_iload_n hx hb dL_law_1650 rfl (lv_at hl 0 rfl) ?_
  refine lv_iconst (v := 2) hx hb dL_law_1651 (by decide) ?_
  refine lv_iadd hx hb dL_law_1652 ?_
  refine lv_topi (fun x_15 ex_15 => ?_)
  obtain rfl : x_15 = 2 := ex_15.trans (by decide +kernel)
  refine va_sld hx hb hX hbl hbA hS (show vp_in 2 6 from (by unfold vp_in; decide)) dL_law_1653 ?_
  refine lv_topi (fun x_16 ex_16 => ?_)
  obtain rfl : x_16 = xs 2 := ex_16.trans (congrArg xs (by decide))
  refine lv_aload_n hx hb dL_law_1654 rfl (lv_at hl 3 rfl) ?_
  refine lv_iload_n hx hb dL_law_1655 rfl (lv_at hl 0 rfl) ?_
  refine lv_iconst (v := 3) hx hb dL_law_1656 (by decide) ?_
  refine lv_iadd hx hb dL_law_1657 ?_
  refine lv_topi (fun x_17 ex_17 => ?_)
  obtain rfl : x_17 = 3 := ex_17.trans (by decide +kernel)
  refine va_sld hx hb hX hbl hbA hS (show vp_in 3 6 from (by unfold vp_in; decide)) dL_law_1658 ?_
  refine lv_topi (fun x_18 ex_18 => ?_)
  obtain rfl : x_18 = xs 3 := ex_18.trans (congrArg xs (by decide))
  refine lv_aload_n hx hb dL_law_1659 rfl (lv_at hl 3 rfl) ?_
  refine lv_iload_n hx hb dL_law_1660 rfl (lv_at hl 0 rfl) ?_
  refine lv_iconst (v := 4) hx hb dL_law_1661 (by decide) ?_
  refine lv_iadd hx hb dL_law_1662 ?_
  refine lv_topi (fun x_19 ex_19 => ?_)
  obtain rfl : x_19 = 4 := ex_19.trans (by decide +kernel)
  refine va_sld hx hb hX hbl hbA hS (show vp_in 4 6 from (by unfold vp_in; decide)) dL_law_1663 ?_
  refine lv_topi (fun x_20 ex_20 => ?_)
  obtain rfl : x_20 = xs 4 := ex_20.trans (congrArg xs (by decide))
  refine lv_aload_n hx hb dL_law_1664 rfl (lv_at hl 3 rfl) ?_
  refine lv_iload_n hx hb dL_law_1665 rfl (lv_at hl 0 rfl) ?_
  refine lv_iconst (v := 5) hx hb dL_law_1666 (by decide) ?_
  refine lv_iadd hx hb dL_law_1667 ?_
  refine lv_topi (fun x_21 ex_21 => ?_)
  obtain rfl : x_21 = 5 := ex_21.trans (by decide +kernel)
  refine va_sld hx hb hX hbl hbA hS (show vp_in 5 6 from (by unfold vp_in; decide)) dL_law_1668 ?_
  refine lv_topi (fun x_22 ex_22 => ?_)
  obtain rfl : x_22 = xs 5 := ex_22.trans (congrArg xs (by decide))
  have hPc := hP.sub (ws' := [(mq, .inr (9, [.int 0, .ref m_width, .ref m_many, .ref m_cells, .ref m_moved, .ref m_tape, .int 0, .int 0, .int 0, .int 0, .int 0, .long 0, .int 0, .int 0, .int 0, .int (-1), .ref m_lines, .ref m_has, .ref m_person, .ref m_letter, .int 0, .ref m_isKept, .ref m_more, .int 0, .ref m_came, .ref m_answered, .ref m_left, .ref m_leftOn, .ref m_isBurnt, .ref m_heard, .ref m_waitsOn, .ref m_idleOn, .ref m_row, .int 0, .int 0, .long 0, .ref m_key, .int 0, .int 0, .int 0, .int 0, .int 0, .int 0, .int 0, .int 0, .ref m_coming, .int 0, .ref m_tried, .ref m_bestOrder, .int 0, .int 0, .ref m_before, .int 0, .ref m_open]))]) [0] rfl
  have hDc := hD.sub (ws' := [(mq, .inr (9, [.int 0, .ref m_width, .ref m_many, .ref m_cells, .ref m_moved, .ref m_tape, .int 0, .int 0, .int 0, .int 0, .int 0, .long 0, .int 0, .int 0, .int 0, .int (-1), .ref m_lines, .ref m_has, .ref m_person, .ref m_letter, .int 0, .ref m_isKept, .ref m_more, .int 0, .ref m_came, .ref m_answered, .ref m_left, .ref m_leftOn, .ref m_isBurnt, .ref m_heard, .ref m_waitsOn, .ref m_idleOn, .ref m_row, .int 0, .int 0, .long 0, .ref m_key, .int 0, .int 0, .int 0, .int 0, .int 0, .int 0, .int 0, .int 0, .ref m_coming, .int 0, .ref m_tried, .ref m_bestOrder, .int 0, .int 0, .ref m_before, .int 0, .ref m_open]))]) [0] (by decide) rfl
  have hKc := hK.sub (tys' := []) [] rfl
  have hFc := va_free (wc := [(mq, .inr (9, [.int 0, .ref m_width, .ref m_many, .ref m_cells, .ref m_moved, .ref m_tape, .int 0, .int 0, .int 0, .int 0, .int 0, .long 0, .int 0, .int 0, .int 0, .int (-1), .ref m_lines, .ref m_has, .ref m_person, .ref m_letter, .int 0, .ref m_isKept, .ref m_more, .int 0, .ref m_came, .ref m_answered, .ref m_left, .ref m_leftOn, .ref m_isBurnt, .ref m_heard, .ref m_waitsOn, .ref m_idleOn, .ref m_row, .int 0, .int 0, .long 0, .ref m_key, .int 0, .int 0, .int 0, .int 0, .int 0, .int 0, .int 0, .int 0, .ref m_coming, .int 0, .ref m_tried, .ref m_bestOrder, .int 0, .int 0, .ref m_before, .int 0, .ref m_open]))]) hD hS hA [0] rfl
  have z_23 : (2 : Int32).toInt = 2 := by decide
  refine va_calli (va_runV (As := [.int 2, .int (xs 2), .int (xs 3), .int (xs 4), .int (xs 5)]) (rest := [.int (-2)]) ⟨hx, hb, hml, hown, hts⟩ (mc_pasteO2 l dC dI H.size mq m_width m_many m_cells m_moved m_tape m_lines m_has m_person m_letter m_isKept m_more m_came m_answered m_left m_leftOn m_isBurnt m_heard m_waitsOn m_idleOn m_row m_key m_coming m_tried m_bestOrder m_before m_open ((xs 2)) ((xs 3)) ((xs 4)) ((xs 5)) h3) (cwV 5 hts (goodV w_1368 w_1369 w_1370 w_5 w_1371) rfl rfl rfl hdV_X9_paste ⟨Nat.le_of_ble_eq_true rfl, Nat.le_of_ble_eq_true rfl⟩) ⟨fun a U g mk q => by obtain ⟨q0, q1, qP, qK, qD⟩ := q; exact ⟨q0, q1, qP, va_K.moved (u := U) (U := U.calling g mk a) (Vm.Alike.refl U.vm) qK, qD⟩, va_recv hKc hPc (ci := 9) (q0 := 0) rfl rfl, fun U hU hW => ⟨rfl, by rw [hU], by rw [hU]; exact hPc, va_K.moved hW.alike hKc, hDc.weaken (fun _ _ _ _ => trivial)⟩⟩ rfl rfl hl.1 rfl (lv_room (Nat.le_of_ble_eq_true rfl)) dL_law_1669 ⟨Nat.le_of_ble_eq_true rfl, Nat.le_of_ble_eq_true rfl⟩) hS (fun q _ h => hFc q h) hFc (fun r_24 u t H1 locs ht hvm hw hB hz1 hk1 hS => ?_)
  obtain ⟨hP, hD⟩ := va_join (wr := []) (w1 := []) hP hD [0] [] rfl rfl (by decide) (by decide) hk1 hFc nilP nilD
  clear hPc hDc hKc hFc
  generalize H1 = H at hP hS ⊢
  have hP : va_P (dC, dI) vwCl [] H := hP
  have hD : va_D (fun q : Nat => s.heap.size ≤ q) [] := hD
  have hw : r_24 = (-2) := hw
  subst hw
  refine lv_icmp_eq (tgt := 1677) hx hb dL_law_1672 (by decide) (fun c_25 => ?_) (fun c_25 => absurd (by decide) c_25)
  exact law_tail C0 hS (lv_sub hl [0, 3] rfl)

set_option maxHeartbeats 4000000 in
set_option maxRecDepth 100000 in
theorem law_paste20 {p : Program} {l : Launch} {e : Env} {s : State} {m : MethodId} {below : List Frame} {meth : Method} {c : Code} {dC : Nat → ClassId} {dI : Nat → Nat → Nat} {b : Nat} {xs : Nat → Int32} {H : Heap} {locs : List Loc} {ls : Array Slot} {x_tape : Nat} {x_reader : Nat} {x_current : Nat} {x_images : Nat} {x_kept : Nat} {x_slots : Nat} {x_diary : Nat} {x_base : Nat} {x_trial : Nat} {x_plan : Nat} {x_orders : Nat} {x_unanswered : Nat} {s0 : Nat} {s1 : Nat} {s2 : Nat} {s3 : Nat} {y0 : Nat} {y2 : Nat} {zk : ClassId} {m_width : Nat} {m_many : Nat} {m_cells : Nat} {m_moved : Nat} {m_tape : Nat} {m_lines : Nat} {m_has : Nat} {m_person : Nat} {m_letter : Nat} {m_isKept : Nat} {m_more : Nat} {m_came : Nat} {m_answered : Nat} {m_left : Nat} {m_leftOn : Nat} {m_isBurnt : Nat} {m_heard : Nat} {m_waitsOn : Nat} {m_idleOn : Nat} {m_row : Nat} {m_key : Nat} {m_coming : Nat} {m_tried : Nat} {m_bestOrder : Nat} {m_before : Nat} {m_open : Nat} {mk_width : ClassId} {xq : Nat} {mq : Nat} (C0 : lw_At p s m meth c b 6 xs) (h1 : xs 1 = 2) (h3 : xs 3 = 0) (hK : va_K (dC, dI) vwCl [(zk, .object RX5), (mk_width, .int)] s) (hP : va_P (dC, dI) vwCl [(xq, .inr (8, [.ref x_tape, .ref x_reader, .ref x_current, .ref x_images, .ref x_kept, .ref x_slots, .ref x_diary, .ref x_base, .ref x_trial, .ref x_plan, .ref x_orders, .ref x_unanswered, .int 0, .int 0, .int (-1)])), (x_slots, .inl (zk, 4, .inr (.inr (.inr (.inr (va_up (va_up (va_up (va_up (fun _ => none) 0 (some s0)) 1 (some s1)) 2 (some s2)) 3 (some s3))))))), (s2, .inr (5, [.ref y2, .int 0, .int 0, .int 0])), (s0, .inr (5, [.ref y0, .int 0, .int 0, .int 0])), (mq, .inr (9, [.int 0, .ref m_width, .ref m_many, .ref m_cells, .ref m_moved, .ref m_tape, .int 0, .int 0, .int 0, .int 0, .int 0, .long 0, .int 0, .int 0, .int 0, .int (-1), .ref m_lines, .ref m_has, .ref m_person, .ref m_letter, .int 0, .ref m_isKept, .ref m_more, .int 0, .ref m_came, .ref m_answered, .ref m_left, .ref m_leftOn, .ref m_isBurnt, .ref m_heard, .ref m_waitsOn, .ref m_idleOn, .ref m_row, .int 0, .int 0, .long 0, .ref m_key, .int 0, .int 0, .int 0, .int 0, .int 0, .int 0, .int 0, .int 0, .ref m_coming, .int 0, .ref m_tried, .ref m_bestOrder, .int 0, .int 0, .ref m_before, .int 0, .ref m_open])), (m_width, .inl (mk_width, 4, .inl (upd (upd (upd (upd (fun _ => 0) 0 (-1)) 1 (-1)) 2 (-1)) 3 (-1))))] H) (hD : va_D (fun q : Nat => s.heap.size ≤ q) [(xq, .inr (8, [.ref x_tape, .ref x_reader, .ref x_current, .ref x_images, .ref x_kept, .ref x_slots, .ref x_diary, .ref x_base, .ref x_trial, .ref x_plan, .ref x_orders, .ref x_unanswered, .int 0, .int 0, .int (-1)])), (x_slots, .inl (zk, 4, .inr (.inr (.inr (.inr (va_up (va_up (va_up (va_up (fun _ => none) 0 (some s0)) 1 (some s1)) 2 (some s2)) 3 (some s3))))))), (s2, .inr (5, [.ref y2, .int 0, .int 0, .int 0])), (s0, .inr (5, [.ref y0, .int 0, .int 0, .int 0])), (mq, .inr (9, [.int 0, .ref m_width, .ref m_many, .ref m_cells, .ref m_moved, .ref m_tape, .int 0, .int 0, .int 0, .int 0, .int 0, .long 0, .int 0, .int 0, .int 0, .int (-1), .ref m_lines, .ref m_has, .ref m_person, .ref m_letter, .int 0, .ref m_isKept, .ref m_more, .int 0, .ref m_came, .ref m_answered, .ref m_left, .ref m_leftOn, .ref m_isBurnt, .ref m_heard, .ref m_waitsOn, .ref m_idleOn, .ref m_row, .int 0, .int 0, .long 0, .ref m_key, .int 0, .int 0, .int 0, .int 0, .int 0, .int 0, .int 0, .int 0, .ref m_coming, .int 0, .ref m_tried, .ref m_bestOrder, .int 0, .int 0, .ref m_before, .int 0, .ref m_open])), (m_width, .inl (mk_width, 4, .inl (upd (upd (upd (upd (fun _ => 0) 0 (-1)) 1 (-1)) 2 (-1)) 3 (-1))))]) (hS : va_S (fun q : Nat => s.heap.size ≤ q) s.heap H locs) (hl : lv_has ls 4 [(3, .int 0), (2, .ref mq), (1, .ref xq), (0, .ref b)]) : W p l e room_1 s m #[Value.ref b] below meth c H locs 144 16687 (lw_Z below #[Value.ref b] s) (F0 m 1614 ls []) := by
  obtain ⟨hx, hb, hr, hml, hown, hts0, hX, hbl, hlocks, hgv⟩ := id C0
  have hts : ∀ w ∈ ALLW, w.before #[Value.ref b] s = true := fun w h => hts0 w (inT w h)
  have hA : ∀ q : Nat, s.heap.size ≤ q → (fun q : Nat => s.heap.size ≤ q) q := fun _ h => h
  have hbA : ¬ (fun q : Nat => s.heap.size ≤ q) b := Nat.not_le.mpr hbl
  refine lv_aload_n hx hb dL_law_1614 rfl (lv_at hl 2 rfl) ?_
  refine lv_aload_n hx hb dL_law_1615 rfl (lv_at hl 3 rfl) ?_
  refine lv_iload_n hx hb dL_law_1616 rfl (lv_at hl 0 rfl) ?_
  refine lv_iconst (v := 1) hx hb dL_law_1617 (by decide) ?_
  refine lv_iadd hx hb dL_law_1618 ?_
  refine lv_topi (fun x_1 ex_1 => ?_)
  obtain rfl : x_1 = 1 := ex_1.trans (by decide +kernel)
  refine va_sld hx hb hX hbl hbA hS (show vp_in 1 6 from (by unfold vp_in; decide)) dL_law_1619 ?_
  refine lv_topi (fun x_2 ex_2 => ?_)
  obtain rfl : x_2 = 2 := ex_2.trans ((congrArg xs (by decide)).trans h1)
  refine lv_aload_n hx hb dL_law_1620 rfl (lv_at hl 3 rfl) ?_
  refine lv_iload_n hx hb dL_law_1621 rfl (lv_at hl 0 rfl) ?_
  refine lv_iconst (v := 2) hx hb dL_law_1622 (by decide) ?_
  refine lv_iadd hx hb dL_law_1623 ?_
  refine lv_topi (fun x_3 ex_3 => ?_)
  obtain rfl : x_3 = 2 := ex_3.trans (by decide +kernel)
  refine va_sld hx hb hX hbl hbA hS (show vp_in 2 6 from (by unfold vp_in; decide)) dL_law_1624 ?_
  refine lv_topi (fun x_4 ex_4 => ?_)
  obtain rfl : x_4 = xs 2 := ex_4.trans (congrArg xs (by decide))
  refine lv_aload_n hx hb dL_law_1625 rfl (lv_at hl 3 rfl) ?_
  refine lv_iload_n hx hb dL_law_1626 rfl (lv_at hl 0 rfl) ?_
  refine lv_iconst (v := 3) hx hb dL_law_1627 (by decide) ?_
  refine lv_iadd hx hb dL_law_1628 ?_
  refine lv_topi (fun x_5 ex_5 => ?_)
  obtain rfl : x_5 = 3 := ex_5.trans (by decide +kernel)
  refine va_sld hx hb hX hbl hbA hS (show vp_in 3 6 from (by unfold vp_in; decide)) dL_law_1629 ?_
  refine lv_topi (fun x_6 ex_6 => ?_)
  obtain rfl : x_6 = 0 := ex_6.trans ((congrArg xs (by decide)).trans h3)
  refine lv_aload_n hx hb dL_law_1630 rfl (lv_at hl 3 rfl) ?_
  refine lv_iload_n hx hb dL_law_1631 rfl (lv_at hl 0 rfl) ?_
  refine lv_iconst (v := 4) hx hb dL_law_1632 (by decide) ?_
  refine lv_iadd hx hb dL_law_1633 ?_
  refine lv_topi (fun x_7 ex_7 => ?_)
  obtain rfl : x_7 = 4 := ex_7.trans (by decide +kernel)
  refine va_sld hx hb hX hbl hbA hS (show vp_in 4 6 from (by unfold vp_in; decide)) dL_law_1634 ?_
  refine lv_topi (fun x_8 ex_8 => ?_)
  obtain rfl : x_8 = xs 4 := ex_8.trans (congrArg xs (by decide))
  refine lv_aload_n hx hb dL_law_1635 rfl (lv_at hl 3 rfl) ?_
  refine lv_iload_n hx hb dL_law_1636 rfl (lv_at hl 0 rfl) ?_
  refine lv_iconst (v := 5) hx hb dL_law_1637 (by decide) ?_
  refine lv_iadd hx hb dL_law_1638 ?_
  refine lv_topi (fun x_9 ex_9 => ?_)
  obtain rfl : x_9 = 5 := ex_9.trans (by decide +kernel)
  refine va_sld hx hb hX hbl hbA hS (show vp_in 5 6 from (by unfold vp_in; decide)) dL_law_1639 ?_
  refine lv_topi (fun x_10 ex_10 => ?_)
  obtain rfl : x_10 = xs 5 := ex_10.trans (congrArg xs (by decide))
  have hPc := hP.sub (ws' := [(xq, .inr (8, [.ref x_tape, .ref x_reader, .ref x_current, .ref x_images, .ref x_kept, .ref x_slots, .ref x_diary, .ref x_base, .ref x_trial, .ref x_plan, .ref x_orders, .ref x_unanswered, .int 0, .int 0, .int (-1)])), (x_slots, .inl (zk, 4, .inr (.inr (.inr (.inr (va_up (va_up (va_up (va_up (fun _ => none) 0 (some s0)) 1 (some s1)) 2 (some s2)) 3 (some s3))))))), (s2, .inr (5, [.ref y2, .int 0, .int 0, .int 0])), (s0, .inr (5, [.ref y0, .int 0, .int 0, .int 0]))]) [0, 1, 2, 3] rfl
  have hDc := hD.sub (ws' := [(xq, .inr (8, [.ref x_tape, .ref x_reader, .ref x_current, .ref x_images, .ref x_kept, .ref x_slots, .ref x_diary, .ref x_base, .ref x_trial, .ref x_plan, .ref x_orders, .ref x_unanswered, .int 0, .int 0, .int (-1)])), (x_slots, .inl (zk, 4, .inr (.inr (.inr (.inr (va_up (va_up (va_up (va_up (fun _ => none) 0 (some s0)) 1 (some s1)) 2 (some s2)) 3 (some s3))))))), (s2, .inr (5, [.ref y2, .int 0, .int 0, .int 0])), (s0, .inr (5, [.ref y0, .int 0, .int 0, .int 0]))]) [0, 1, 2, 3] (by decide) rfl
  have hKc := hK.sub (tys' := [(zk, .object RX5)]) [0] rfl
  have hFc := va_free (wc := [(xq, .inr (8, [.ref x_tape, .ref x_reader, .ref x_current, .ref x_images, .ref x_kept, .ref x_slots, .ref x_diary, .ref x_base, .ref x_trial, .ref x_plan, .ref x_orders, .ref x_unanswered, .int 0, .int 0, .int (-1)])), (x_slots, .inl (zk, 4, .inr (.inr (.inr (.inr (va_up (va_up (va_up (va_up (fun _ => none) 0 (some s0)) 1 (some s1)) 2 (some s2)) 3 (some s3))))))), (s2, .inr (5, [.ref y2, .int 0, .int 0, .int 0])), (s0, .inr (5, [.ref y0, .int 0, .int 0, .int 0]))]) hD hS hA [0, 1, 2, 3] rfl
  refine va_calli (va_runV (As := [.int 2, .int (xs 2), .int 0, .int (xs 4), .int (xs 5)]) (rest := []) ⟨hx, hb, hml, hown, hts⟩ (x_paste20 l dC dI H.size xq x_tape x_reader x_current x_images x_kept x_slots x_diary x_base x_trial x_plan x_orders x_unanswered s0 s1 s2 s3 y0 0 y2 0 zk ((xs 2)) ((xs 4)) ((xs 5)) ) (cwV 5 hts (goodV w_1358 w_1359 w_1360 w_2 w_1361) rfl rfl rfl hdV_X8_paste ⟨Nat.le_of_ble_eq_true rfl, Nat.le_of_ble_eq_true rfl⟩) ⟨fun a U g mk q => by obtain ⟨q0, q1, qP, qK, qD⟩ := q; exact ⟨q0, q1, qP, va_K.moved (u := U) (U := U.calling g mk a) (Vm.Alike.refl U.vm) qK, qD⟩, va_recv hKc hPc (ci := 8) (q0 := 0) rfl rfl, fun U hU hW => ⟨rfl, by rw [hU], by rw [hU]; exact hPc, va_K.moved hW.alike hKc, hDc.weaken (fun _ _ _ _ => trivial)⟩⟩ rfl rfl hl.1 rfl (lv_room (Nat.le_of_ble_eq_true rfl)) dL_law_1640 ⟨Nat.le_of_ble_eq_true rfl, Nat.le_of_ble_eq_true rfl⟩) hS (fun q _ h => hFc q h) hFc (fun r_11 u t H1 locs ht hvm hw hB hz1 hk1 hS => ?_)
  obtain ⟨hP, hD⟩ := va_join (wr := [(mq, .inr (9, [.int 0, .ref m_width, .ref m_many, .ref m_cells, .ref m_moved, .ref m_tape, .int 0, .int 0, .int 0, .int 0, .int 0, .long 0, .int 0, .int 0, .int 0, .int (-1), .ref m_lines, .ref m_has, .ref m_person, .ref m_letter, .int 0, .ref m_isKept, .ref m_more, .int 0, .ref m_came, .ref m_answered, .ref m_left, .ref m_leftOn, .ref m_isBurnt, .ref m_heard, .ref m_waitsOn, .ref m_idleOn, .ref m_row, .int 0, .int 0, .long 0, .ref m_key, .int 0, .int 0, .int 0, .int 0, .int 0, .int 0, .int 0, .int 0, .ref m_coming, .int 0, .ref m_tried, .ref m_bestOrder, .int 0, .int 0, .ref m_before, .int 0, .ref m_open])), (m_width, .inl (mk_width, 4, .inl (upd (upd (upd (upd (fun _ => 0) 0 (-1)) 1 (-1)) 2 (-1)) 3 (-1))))]) (w1 := []) hP hD [0, 1, 2, 3] [4, 5] rfl rfl (by decide) (by decide) hk1 hFc nilP nilD
  clear hPc hDc hKc hFc
  generalize H1 = H at hP hS ⊢
  have hP : va_P (dC, dI) vwCl [(mq, .inr (9, [.int 0, .ref m_width, .ref m_many, .ref m_cells, .ref m_moved, .ref m_tape, .int 0, .int 0, .int 0, .int 0, .int 0, .long 0, .int 0, .int 0, .int 0, .int (-1), .ref m_lines, .ref m_has, .ref m_person, .ref m_letter, .int 0, .ref m_isKept, .ref m_more, .int 0, .ref m_came, .ref m_answered, .ref m_left, .ref m_leftOn, .ref m_isBurnt, .ref m_heard, .ref m_waitsOn, .ref m_idleOn, .ref m_row, .int 0, .int 0, .long 0, .ref m_key, .int 0, .int 0, .int 0, .int 0, .int 0, .int 0, .int 0, .int 0, .ref m_coming, .int 0, .ref m_tried, .ref m_bestOrder, .int 0, .int 0, .ref m_before, .int 0, .ref m_open])), (m_width, .inl (mk_width, 4, .inl (upd (upd (upd (upd (fun _ => 0) 0 (-1)) 1 (-1)) 2 (-1)) 3 (-1))))] H := hP
  have hD : va_D (fun q : Nat => s.heap.size ≤ q) [(mq, .inr (9, [.int 0, .ref m_width, .ref m_many, .ref m_cells, .ref m_moved, .ref m_tape, .int 0, .int 0, .int 0, .int 0, .int 0, .long 0, .int 0, .int 0, .int 0, .int (-1), .ref m_lines, .ref m_has, .ref m_person, .ref m_letter, .int 0, .ref m_isKept, .ref m_more, .int 0, .ref m_came, .ref m_answered, .ref m_left, .ref m_leftOn, .ref m_isBurnt, .ref m_heard, .ref m_waitsOn, .ref m_idleOn, .ref m_row, .int 0, .int 0, .long 0, .ref m_key, .int 0, .int 0, .int 0, .int 0, .int 0, .int 0, .int 0, .int 0, .ref m_coming, .int 0, .ref m_tried, .ref m_bestOrder, .int 0, .int 0, .ref m_before, .int 0, .ref m_open])), (m_width, .inl (mk_width, 4, .inl (upd (upd (upd (upd (fun _ => 0) 0 (-1)) 1 (-1)) 2 (-1)) 3 (-1))))] := hD
  have hw : r_11 = (-6) := hw
  subst hw
  refine lv_aload_n hx hb dL_law_1643 rfl (lv_at hl 1 rfl) ?_
  refine lv_aload_n hx hb dL_law_1644 rfl (lv_at hl 3 rfl) ?_
  refine lv_iload_n hx hb dL_law_1645 rfl (lv_at hl 0 rfl) ?_
  refine lv_iconst (v := 1) hx hb dL_law_1646 (by decide) ?_
  refine lv_iadd hx hb dL_law_1647 ?_
  refine lv_topi (fun x_12 ex_12 => ?_)
  obtain rfl : x_12 = 1 := ex_12.trans (by decide +kernel)
  refine va_sld hx hb hX hbl hbA hS (show vp_in 1 6 from (by unfold vp_in; decide)) dL_law_1648 ?_
  refine lv_topi (fun x_13 ex_13 => ?_)
  obtain rfl : x_13 = 2 := ex_13.trans ((congrArg xs (by decide)).trans h1)
  refine lv_aload_n hx hb dL_law_1649 rfl (lv_at hl 3 rfl) ?_
  refine lv_iload_n hx hb dL_law_1650 rfl (lv_at hl 0 rfl) ?_
  refine lv_iconst (v := 2) hx hb dL_law_1651 (by decide) ?_
  refine lv_iadd hx hb dL_law_1652 ?_
  refine lv_topi (fun x_14 ex_14 => ?_)
  obtain rfl : x_14 = 2 := ex_14.trans (by decide +kernel)
  refine va_sld hx hb hX hbl hbA hS (show vp_in 2 6 from (by unfold vp_in; decide)) dL_law_1653 ?_
  refine lv_topi (fun x_15 ex_15 => ?_)
  obtain rfl : x_15 = xs 2 := ex_15.trans (congrArg xs (by decide))
  refine lv_aload_n hx hb dL_law_1654 rfl (lv_at hl 3 rfl) ?_
  refine lv_iload_n hx hb dL_law_1655 rfl (lv_at hl 0 rfl) ?_
  refine lv_iconst (v := 3) hx hb dL_law_1656 (by decide) ?_
  refine lv_iadd hx hb dL_law_1657 ?_
  refine lv_topi (fun x_16 ex_16 => ?_)
  obtain rfl : x_16 = 3 := ex_16.trans (by decide +kernel)
  refine va_sld hx hb hX hbl hbA hS (show vp_in 3 6 from (by unfold vp_in; decide)) dL_law_1658 ?_
  refine lv_topi (fun x_17 ex_17 => ?_)
  obtain rfl : x_17 = 0 := ex_17.trans ((congrArg xs (by decide)).trans h3)
  refine lv_aload_n hx hb dL_law_1659 rfl (lv_at hl 3 rfl) ?_
  refine lv_iload_n hx hb dL_law_1660 rfl (lv_at hl 0 rfl) ?_
  refine lv_iconst (v := 4) hx hb dL_law_1661 (by decide) ?_
  refine lv_iadd hx hb dL_law_1662 ?_
  refine lv_topi (fun x_18 ex_18 => ?_)
  obtain rfl : x_18 = 4 := ex_18.trans (by decide +kernel)
  refine va_sld hx hb hX hbl hbA hS (show vp_in 4 6 from (by unfold vp_in; decide)) dL_law_1663 ?_
  refine lv_topi (fun x_19 ex_19 => ?_)
  obtain rfl : x_19 = xs 4 := ex_19.trans (congrArg xs (by decide))
  refine lv_aload_n hx hb dL_law_1664 rfl (lv_at hl 3 rfl) ?_
  refine lv_iload_n hx hb dL_law_1665 rfl (lv_at hl 0 rfl) ?_
  refine lv_iconst (v := 5) hx hb dL_law_1666 (by decide) ?_
  refine lv_iadd hx hb dL_law_1667 ?_
  refine lv_topi (fun x_20 ex_20 => ?_)
  obtain rfl : x_20 = 5 := ex_20.trans (by decide +kernel)
  refine va_sld hx hb hX hbl hbA hS (show vp_in 5 6 from (by unfold vp_in; decide)) dL_law_1668 ?_
  refine lv_topi (fun x_21 ex_21 => ?_)
  obtain rfl : x_21 = xs 5 := ex_21.trans (congrArg xs (by decide))
  have hPc := hP.sub (ws' := [(mq, .inr (9, [.int 0, .ref m_width, .ref m_many, .ref m_cells, .ref m_moved, .ref m_tape, .int 0, .int 0, .int 0, .int 0, .int 0, .long 0, .int 0, .int 0, .int 0, .int (-1), .ref m_lines, .ref m_has, .ref m_person, .ref m_letter, .int 0, .ref m_isKept, .ref m_more, .int 0, .ref m_came, .ref m_answered, .ref m_left, .ref m_leftOn, .ref m_isBurnt, .ref m_heard, .ref m_waitsOn, .ref m_idleOn, .ref m_row, .int 0, .int 0, .long 0, .ref m_key, .int 0, .int 0, .int 0, .int 0, .int 0, .int 0, .int 0, .int 0, .ref m_coming, .int 0, .ref m_tried, .ref m_bestOrder, .int 0, .int 0, .ref m_before, .int 0, .ref m_open])), (m_width, .inl (mk_width, 4, .inl (upd (upd (upd (upd (fun _ => 0) 0 (-1)) 1 (-1)) 2 (-1)) 3 (-1))))]) [0, 1] rfl
  have hDc := hD.sub (ws' := [(mq, .inr (9, [.int 0, .ref m_width, .ref m_many, .ref m_cells, .ref m_moved, .ref m_tape, .int 0, .int 0, .int 0, .int 0, .int 0, .long 0, .int 0, .int 0, .int 0, .int (-1), .ref m_lines, .ref m_has, .ref m_person, .ref m_letter, .int 0, .ref m_isKept, .ref m_more, .int 0, .ref m_came, .ref m_answered, .ref m_left, .ref m_leftOn, .ref m_isBurnt, .ref m_heard, .ref m_waitsOn, .ref m_idleOn, .ref m_row, .int 0, .int 0, .long 0, .ref m_key, .int 0, .int 0, .int 0, .int 0, .int 0, .int 0, .int 0, .int 0, .ref m_coming, .int 0, .ref m_tried, .ref m_bestOrder, .int 0, .int 0, .ref m_before, .int 0, .ref m_open])), (m_width, .inl (mk_width, 4, .inl (upd (upd (upd (upd (fun _ => 0) 0 (-1)) 1 (-1)) 2 (-1)) 3 (-1))))]) [0, 1] (by decide) rfl
  have hKc := hK.sub (tys' := [(mk_width, .int)]) [1] rfl
  have hFc := va_free (wc := [(mq, .inr (9, [.int 0, .ref m_width, .ref m_many, .ref m_cells, .ref m_moved, .ref m_tape, .int 0, .int 0, .int 0, .int 0, .int 0, .long 0, .int 0, .int 0, .int 0, .int (-1), .ref m_lines, .ref m_has, .ref m_person, .ref m_letter, .int 0, .ref m_isKept, .ref m_more, .int 0, .ref m_came, .ref m_answered, .ref m_left, .ref m_leftOn, .ref m_isBurnt, .ref m_heard, .ref m_waitsOn, .ref m_idleOn, .ref m_row, .int 0, .int 0, .long 0, .ref m_key, .int 0, .int 0, .int 0, .int 0, .int 0, .int 0, .int 0, .int 0, .ref m_coming, .int 0, .ref m_tried, .ref m_bestOrder, .int 0, .int 0, .ref m_before, .int 0, .ref m_open])), (m_width, .inl (mk_width, 4, .inl (upd (upd (upd (upd (fun _ => 0) 0 (-1)) 1 (-1)) 2 (-1)) 3 (-1))))]) hD hS hA [0, 1] rfl
  refine va_calli (va_runV (As := [.int 2, .int (xs 2), .int 0, .int (xs 4), .int (xs 5)]) (rest := [.int (-6)]) ⟨hx, hb, hml, hown, hts⟩ (mc_paste20 l dC dI H.size mq m_width m_many m_cells m_moved m_tape m_lines m_has m_person m_letter m_isKept m_more m_came m_answered m_left m_leftOn m_isBurnt m_heard m_waitsOn m_idleOn m_row m_key m_coming m_tried m_bestOrder m_before m_open mk_width ((xs 2)) ((xs 4)) ((xs 5)) ) (cwV 5 hts (goodV w_1368 w_1369 w_1370 w_5 w_1371) rfl rfl rfl hdV_X9_paste ⟨Nat.le_of_ble_eq_true rfl, Nat.le_of_ble_eq_true rfl⟩) ⟨fun a U g mk q => by obtain ⟨q0, q1, qP, qK, qD⟩ := q; exact ⟨q0, q1, qP, va_K.moved (u := U) (U := U.calling g mk a) (Vm.Alike.refl U.vm) qK, qD⟩, va_recv hKc hPc (ci := 9) (q0 := 0) rfl rfl, fun U hU hW => ⟨rfl, by rw [hU], by rw [hU]; exact hPc, va_K.moved hW.alike hKc, hDc.weaken (fun _ _ _ _ => trivial)⟩⟩ rfl rfl hl.1 rfl (lv_room (Nat.le_of_ble_eq_true rfl)) dL_law_1669 ⟨Nat.le_of_ble_eq_true rfl, Nat.le_of_ble_eq_true rfl⟩) hS (fun q _ h => hFc q h) hFc (fun r_22 u t H1 locs ht hvm hw hB hz1 hk1 hS => ?_)
  obtain ⟨hP, hD⟩ := va_join (wr := []) (w1 := []) hP hD [0, 1] [] rfl rfl (by decide) (by decide) hk1 hFc nilP nilD
  clear hPc hDc hKc hFc
  generalize H1 = H at hP hS ⊢
  have hP : va_P (dC, dI) vwCl [] H := hP
  have hD : va_D (fun q : Nat => s.heap.size ≤ q) [] := hD
  have hw : r_22 = (-6) := hw
  subst hw
  refine lv_icmp_eq (tgt := 1677) hx hb dL_law_1672 (by decide) (fun c_23 => ?_) (fun c_23 => absurd (by decide) c_23)
  exact law_tail C0 hS (lv_sub hl [0, 3] rfl)

set_option maxHeartbeats 4000000 in
set_option maxRecDepth 100000 in
theorem law_paste21 {p : Program} {l : Launch} {e : Env} {s : State} {m : MethodId} {below : List Frame} {meth : Method} {c : Code} {dC : Nat → ClassId} {dI : Nat → Nat → Nat} {b : Nat} {xs : Nat → Int32} {H : Heap} {locs : List Loc} {ls : Array Slot} {x_tape : Nat} {x_reader : Nat} {x_current : Nat} {x_images : Nat} {x_kept : Nat} {x_slots : Nat} {x_diary : Nat} {x_base : Nat} {x_trial : Nat} {x_plan : Nat} {x_orders : Nat} {x_unanswered : Nat} {s0 : Nat} {s1 : Nat} {s2 : Nat} {s3 : Nat} {y1 : Nat} {y2 : Nat} {zk : ClassId} {m_width : Nat} {m_many : Nat} {m_cells : Nat} {m_moved : Nat} {m_tape : Nat} {m_lines : Nat} {m_has : Nat} {m_person : Nat} {m_letter : Nat} {m_isKept : Nat} {m_more : Nat} {m_came : Nat} {m_answered : Nat} {m_left : Nat} {m_leftOn : Nat} {m_isBurnt : Nat} {m_heard : Nat} {m_waitsOn : Nat} {m_idleOn : Nat} {m_row : Nat} {m_key : Nat} {m_coming : Nat} {m_tried : Nat} {m_bestOrder : Nat} {m_before : Nat} {m_open : Nat} {mk_width : ClassId} {xq : Nat} {mq : Nat} (C0 : lw_At p s m meth c b 6 xs) (h1 : xs 1 = 2) (h3 : xs 3 = 1) (hK : va_K (dC, dI) vwCl [(zk, .object RX5), (mk_width, .int)] s) (hP : va_P (dC, dI) vwCl [(xq, .inr (8, [.ref x_tape, .ref x_reader, .ref x_current, .ref x_images, .ref x_kept, .ref x_slots, .ref x_diary, .ref x_base, .ref x_trial, .ref x_plan, .ref x_orders, .ref x_unanswered, .int 0, .int 0, .int (-1)])), (x_slots, .inl (zk, 4, .inr (.inr (.inr (.inr (va_up (va_up (va_up (va_up (fun _ => none) 0 (some s0)) 1 (some s1)) 2 (some s2)) 3 (some s3))))))), (s2, .inr (5, [.ref y2, .int 0, .int 0, .int 0])), (s1, .inr (5, [.ref y1, .int 0, .int 0, .int 0])), (mq, .inr (9, [.int 0, .ref m_width, .ref m_many, .ref m_cells, .ref m_moved, .ref m_tape, .int 0, .int 0, .int 0, .int 0, .int 0, .long 0, .int 0, .int 0, .int 0, .int (-1), .ref m_lines, .ref m_has, .ref m_person, .ref m_letter, .int 0, .ref m_isKept, .ref m_more, .int 0, .ref m_came, .ref m_answered, .ref m_left, .ref m_leftOn, .ref m_isBurnt, .ref m_heard, .ref m_waitsOn, .ref m_idleOn, .ref m_row, .int 0, .int 0, .long 0, .ref m_key, .int 0, .int 0, .int 0, .int 0, .int 0, .int 0, .int 0, .int 0, .ref m_coming, .int 0, .ref m_tried, .ref m_bestOrder, .int 0, .int 0, .ref m_before, .int 0, .ref m_open])), (m_width, .inl (mk_width, 4, .inl (upd (upd (upd (upd (fun _ => 0) 0 (-1)) 1 (-1)) 2 (-1)) 3 (-1))))] H) (hD : va_D (fun q : Nat => s.heap.size ≤ q) [(xq, .inr (8, [.ref x_tape, .ref x_reader, .ref x_current, .ref x_images, .ref x_kept, .ref x_slots, .ref x_diary, .ref x_base, .ref x_trial, .ref x_plan, .ref x_orders, .ref x_unanswered, .int 0, .int 0, .int (-1)])), (x_slots, .inl (zk, 4, .inr (.inr (.inr (.inr (va_up (va_up (va_up (va_up (fun _ => none) 0 (some s0)) 1 (some s1)) 2 (some s2)) 3 (some s3))))))), (s2, .inr (5, [.ref y2, .int 0, .int 0, .int 0])), (s1, .inr (5, [.ref y1, .int 0, .int 0, .int 0])), (mq, .inr (9, [.int 0, .ref m_width, .ref m_many, .ref m_cells, .ref m_moved, .ref m_tape, .int 0, .int 0, .int 0, .int 0, .int 0, .long 0, .int 0, .int 0, .int 0, .int (-1), .ref m_lines, .ref m_has, .ref m_person, .ref m_letter, .int 0, .ref m_isKept, .ref m_more, .int 0, .ref m_came, .ref m_answered, .ref m_left, .ref m_leftOn, .ref m_isBurnt, .ref m_heard, .ref m_waitsOn, .ref m_idleOn, .ref m_row, .int 0, .int 0, .long 0, .ref m_key, .int 0, .int 0, .int 0, .int 0, .int 0, .int 0, .int 0, .int 0, .ref m_coming, .int 0, .ref m_tried, .ref m_bestOrder, .int 0, .int 0, .ref m_before, .int 0, .ref m_open])), (m_width, .inl (mk_width, 4, .inl (upd (upd (upd (upd (fun _ => 0) 0 (-1)) 1 (-1)) 2 (-1)) 3 (-1))))]) (hS : va_S (fun q : Nat => s.heap.size ≤ q) s.heap H locs) (hl : lv_has ls 4 [(3, .int 0), (2, .ref mq), (1, .ref xq), (0, .ref b)]) : W p l e room_1 s m #[Value.ref b] below meth c H locs 144 16687 (lw_Z below #[Value.ref b] s) (F0 m 1614 ls []) := by
  obtain ⟨hx, hb, hr, hml, hown, hts0, hX, hbl, hlocks, hgv⟩ := id C0
  have hts : ∀ w ∈ ALLW, w.before #[Value.ref b] s = true := fun w h => hts0 w (inT w h)
  have hA : ∀ q : Nat, s.heap.size ≤ q → (fun q : Nat => s.heap.size ≤ q) q := fun _ h => h
  have hbA : ¬ (fun q : Nat => s.heap.size ≤ q) b := Nat.not_le.mpr hbl
  refine lv_aload_n hx hb dL_law_1614 rfl (lv_at hl 2 rfl) ?_
  refine lv_aload_n hx hb dL_law_1615 rfl (lv_at hl 3 rfl) ?_
  refine lv_iload_n hx hb dL_law_1616 rfl (lv_at hl 0 rfl) ?_
  refine lv_iconst (v := 1) hx hb dL_law_1617 (by decide) ?_
  refine lv_iadd hx hb dL_law_1618 ?_
  refine lv_topi (fun x_1 ex_1 => ?_)
  obtain rfl : x_1 = 1 := ex_1.trans (by decide +kernel)
  refine va_sld hx hb hX hbl hbA hS (show vp_in 1 6 from (by unfold vp_in; decide)) dL_law_1619 ?_
  refine lv_topi (fun x_2 ex_2 => ?_)
  obtain rfl : x_2 = 2 := ex_2.trans ((congrArg xs (by decide)).trans h1)
  refine lv_aload_n hx hb dL_law_1620 rfl (lv_at hl 3 rfl) ?_
  refine lv_iload_n hx hb dL_law_1621 rfl (lv_at hl 0 rfl) ?_
  refine lv_iconst (v := 2) hx hb dL_law_1622 (by decide) ?_
  refine lv_iadd hx hb dL_law_1623 ?_
  refine lv_topi (fun x_3 ex_3 => ?_)
  obtain rfl : x_3 = 2 := ex_3.trans (by decide +kernel)
  refine va_sld hx hb hX hbl hbA hS (show vp_in 2 6 from (by unfold vp_in; decide)) dL_law_1624 ?_
  refine lv_topi (fun x_4 ex_4 => ?_)
  obtain rfl : x_4 = xs 2 := ex_4.trans (congrArg xs (by decide))
  refine lv_aload_n hx hb dL_law_1625 rfl (lv_at hl 3 rfl) ?_
  refine lv_iload_n hx hb dL_law_1626 rfl (lv_at hl 0 rfl) ?_
  refine lv_iconst (v := 3) hx hb dL_law_1627 (by decide) ?_
  refine lv_iadd hx hb dL_law_1628 ?_
  refine lv_topi (fun x_5 ex_5 => ?_)
  obtain rfl : x_5 = 3 := ex_5.trans (by decide +kernel)
  refine va_sld hx hb hX hbl hbA hS (show vp_in 3 6 from (by unfold vp_in; decide)) dL_law_1629 ?_
  refine lv_topi (fun x_6 ex_6 => ?_)
  obtain rfl : x_6 = 1 := ex_6.trans ((congrArg xs (by decide)).trans h3)
  refine lv_aload_n hx hb dL_law_1630 rfl (lv_at hl 3 rfl) ?_
  refine lv_iload_n hx hb dL_law_1631 rfl (lv_at hl 0 rfl) ?_
  refine lv_iconst (v := 4) hx hb dL_law_1632 (by decide) ?_
  refine lv_iadd hx hb dL_law_1633 ?_
  refine lv_topi (fun x_7 ex_7 => ?_)
  obtain rfl : x_7 = 4 := ex_7.trans (by decide +kernel)
  refine va_sld hx hb hX hbl hbA hS (show vp_in 4 6 from (by unfold vp_in; decide)) dL_law_1634 ?_
  refine lv_topi (fun x_8 ex_8 => ?_)
  obtain rfl : x_8 = xs 4 := ex_8.trans (congrArg xs (by decide))
  refine lv_aload_n hx hb dL_law_1635 rfl (lv_at hl 3 rfl) ?_
  refine lv_iload_n hx hb dL_law_1636 rfl (lv_at hl 0 rfl) ?_
  refine lv_iconst (v := 5) hx hb dL_law_1637 (by decide) ?_
  refine lv_iadd hx hb dL_law_1638 ?_
  refine lv_topi (fun x_9 ex_9 => ?_)
  obtain rfl : x_9 = 5 := ex_9.trans (by decide +kernel)
  refine va_sld hx hb hX hbl hbA hS (show vp_in 5 6 from (by unfold vp_in; decide)) dL_law_1639 ?_
  refine lv_topi (fun x_10 ex_10 => ?_)
  obtain rfl : x_10 = xs 5 := ex_10.trans (congrArg xs (by decide))
  have hPc := hP.sub (ws' := [(xq, .inr (8, [.ref x_tape, .ref x_reader, .ref x_current, .ref x_images, .ref x_kept, .ref x_slots, .ref x_diary, .ref x_base, .ref x_trial, .ref x_plan, .ref x_orders, .ref x_unanswered, .int 0, .int 0, .int (-1)])), (x_slots, .inl (zk, 4, .inr (.inr (.inr (.inr (va_up (va_up (va_up (va_up (fun _ => none) 0 (some s0)) 1 (some s1)) 2 (some s2)) 3 (some s3))))))), (s2, .inr (5, [.ref y2, .int 0, .int 0, .int 0])), (s1, .inr (5, [.ref y1, .int 0, .int 0, .int 0]))]) [0, 1, 2, 3] rfl
  have hDc := hD.sub (ws' := [(xq, .inr (8, [.ref x_tape, .ref x_reader, .ref x_current, .ref x_images, .ref x_kept, .ref x_slots, .ref x_diary, .ref x_base, .ref x_trial, .ref x_plan, .ref x_orders, .ref x_unanswered, .int 0, .int 0, .int (-1)])), (x_slots, .inl (zk, 4, .inr (.inr (.inr (.inr (va_up (va_up (va_up (va_up (fun _ => none) 0 (some s0)) 1 (some s1)) 2 (some s2)) 3 (some s3))))))), (s2, .inr (5, [.ref y2, .int 0, .int 0, .int 0])), (s1, .inr (5, [.ref y1, .int 0, .int 0, .int 0]))]) [0, 1, 2, 3] (by decide) rfl
  have hKc := hK.sub (tys' := [(zk, .object RX5)]) [0] rfl
  have hFc := va_free (wc := [(xq, .inr (8, [.ref x_tape, .ref x_reader, .ref x_current, .ref x_images, .ref x_kept, .ref x_slots, .ref x_diary, .ref x_base, .ref x_trial, .ref x_plan, .ref x_orders, .ref x_unanswered, .int 0, .int 0, .int (-1)])), (x_slots, .inl (zk, 4, .inr (.inr (.inr (.inr (va_up (va_up (va_up (va_up (fun _ => none) 0 (some s0)) 1 (some s1)) 2 (some s2)) 3 (some s3))))))), (s2, .inr (5, [.ref y2, .int 0, .int 0, .int 0])), (s1, .inr (5, [.ref y1, .int 0, .int 0, .int 0]))]) hD hS hA [0, 1, 2, 3] rfl
  refine va_calli (va_runV (As := [.int 2, .int (xs 2), .int 1, .int (xs 4), .int (xs 5)]) (rest := []) ⟨hx, hb, hml, hown, hts⟩ (x_paste21 l dC dI H.size xq x_tape x_reader x_current x_images x_kept x_slots x_diary x_base x_trial x_plan x_orders x_unanswered s0 s1 s2 s3 0 y1 y2 0 zk ((xs 2)) ((xs 4)) ((xs 5)) ) (cwV 5 hts (goodV w_1358 w_1359 w_1360 w_2 w_1361) rfl rfl rfl hdV_X8_paste ⟨Nat.le_of_ble_eq_true rfl, Nat.le_of_ble_eq_true rfl⟩) ⟨fun a U g mk q => by obtain ⟨q0, q1, qP, qK, qD⟩ := q; exact ⟨q0, q1, qP, va_K.moved (u := U) (U := U.calling g mk a) (Vm.Alike.refl U.vm) qK, qD⟩, va_recv hKc hPc (ci := 8) (q0 := 0) rfl rfl, fun U hU hW => ⟨rfl, by rw [hU], by rw [hU]; exact hPc, va_K.moved hW.alike hKc, hDc.weaken (fun _ _ _ _ => trivial)⟩⟩ rfl rfl hl.1 rfl (lv_room (Nat.le_of_ble_eq_true rfl)) dL_law_1640 ⟨Nat.le_of_ble_eq_true rfl, Nat.le_of_ble_eq_true rfl⟩) hS (fun q _ h => hFc q h) hFc (fun r_11 u t H1 locs ht hvm hw hB hz1 hk1 hS => ?_)
  obtain ⟨hP, hD⟩ := va_join (wr := [(mq, .inr (9, [.int 0, .ref m_width, .ref m_many, .ref m_cells, .ref m_moved, .ref m_tape, .int 0, .int 0, .int 0, .int 0, .int 0, .long 0, .int 0, .int 0, .int 0, .int (-1), .ref m_lines, .ref m_has, .ref m_person, .ref m_letter, .int 0, .ref m_isKept, .ref m_more, .int 0, .ref m_came, .ref m_answered, .ref m_left, .ref m_leftOn, .ref m_isBurnt, .ref m_heard, .ref m_waitsOn, .ref m_idleOn, .ref m_row, .int 0, .int 0, .long 0, .ref m_key, .int 0, .int 0, .int 0, .int 0, .int 0, .int 0, .int 0, .int 0, .ref m_coming, .int 0, .ref m_tried, .ref m_bestOrder, .int 0, .int 0, .ref m_before, .int 0, .ref m_open])), (m_width, .inl (mk_width, 4, .inl (upd (upd (upd (upd (fun _ => 0) 0 (-1)) 1 (-1)) 2 (-1)) 3 (-1))))]) (w1 := []) hP hD [0, 1, 2, 3] [4, 5] rfl rfl (by decide) (by decide) hk1 hFc nilP nilD
  clear hPc hDc hKc hFc
  generalize H1 = H at hP hS ⊢
  have hP : va_P (dC, dI) vwCl [(mq, .inr (9, [.int 0, .ref m_width, .ref m_many, .ref m_cells, .ref m_moved, .ref m_tape, .int 0, .int 0, .int 0, .int 0, .int 0, .long 0, .int 0, .int 0, .int 0, .int (-1), .ref m_lines, .ref m_has, .ref m_person, .ref m_letter, .int 0, .ref m_isKept, .ref m_more, .int 0, .ref m_came, .ref m_answered, .ref m_left, .ref m_leftOn, .ref m_isBurnt, .ref m_heard, .ref m_waitsOn, .ref m_idleOn, .ref m_row, .int 0, .int 0, .long 0, .ref m_key, .int 0, .int 0, .int 0, .int 0, .int 0, .int 0, .int 0, .int 0, .ref m_coming, .int 0, .ref m_tried, .ref m_bestOrder, .int 0, .int 0, .ref m_before, .int 0, .ref m_open])), (m_width, .inl (mk_width, 4, .inl (upd (upd (upd (upd (fun _ => 0) 0 (-1)) 1 (-1)) 2 (-1)) 3 (-1))))] H := hP
  have hD : va_D (fun q : Nat => s.heap.size ≤ q) [(mq, .inr (9, [.int 0, .ref m_width, .ref m_many, .ref m_cells, .ref m_moved, .ref m_tape, .int 0, .int 0, .int 0, .int 0, .int 0, .long 0, .int 0, .int 0, .int 0, .int (-1), .ref m_lines, .ref m_has, .ref m_person, .ref m_letter, .int 0, .ref m_isKept, .ref m_more, .int 0, .ref m_came, .ref m_answered, .ref m_left, .ref m_leftOn, .ref m_isBurnt, .ref m_heard, .ref m_waitsOn, .ref m_idleOn, .ref m_row, .int 0, .int 0, .long 0, .ref m_key, .int 0, .int 0, .int 0, .int 0, .int 0, .int 0, .int 0, .int 0, .ref m_coming, .int 0, .ref m_tried, .ref m_bestOrder, .int 0, .int 0, .ref m_before, .int 0, .ref m_open])), (m_width, .inl (mk_width, 4, .inl (upd (upd (upd (upd (fun _ => 0) 0 (-1)) 1 (-1)) 2 (-1)) 3 (-1))))] := hD
  have hw : r_11 = (-6) := hw
  subst hw
  refine lv_aload_n hx hb dL_law_1643 rfl (lv_at hl 1 rfl) ?_
  refine lv_aload_n hx hb dL_law_1644 rfl (lv_at hl 3 rfl) ?_
  refine lv_iload_n hx hb dL_law_1645 rfl (lv_at hl 0 rfl) ?_
  refine lv_iconst (v := 1) hx hb dL_law_1646 (by decide) ?_
  refine lv_iadd hx hb dL_law_1647 ?_
  refine lv_topi (fun x_12 ex_12 => ?_)
  obtain rfl : x_12 = 1 := ex_12.trans (by decide +kernel)
  refine va_sld hx hb hX hbl hbA hS (show vp_in 1 6 from (by unfold vp_in; decide)) dL_law_1648 ?_
  refine lv_topi (fun x_13 ex_13 => ?_)
  obtain rfl : x_13 = 2 := ex_13.trans ((congrArg xs (by decide)).trans h1)
  refine lv_aload_n hx hb dL_law_1649 rfl (lv_at hl 3 rfl) ?_
  refine lv_iload_n hx hb dL_law_1650 rfl (lv_at hl 0 rfl) ?_
  refine lv_iconst (v := 2) hx hb dL_law_1651 (by decide) ?_
  refine lv_iadd hx hb dL_law_1652 ?_
  refine lv_topi (fun x_14 ex_14 => ?_)
  obtain rfl : x_14 = 2 := ex_14.trans (by decide +kernel)
  refine va_sld hx hb hX hbl hbA hS (show vp_in 2 6 from (by unfold vp_in; decide)) dL_law_1653 ?_
  refine lv_topi (fun x_15 ex_15 => ?_)
  obtain rfl : x_15 = xs 2 := ex_15.trans (congrArg xs (by decide))
  refine lv_aload_n hx hb dL_law_1654 rfl (lv_at hl 3 rfl) ?_
  refine lv_iload_n hx hb dL_law_1655 rfl (lv_at hl 0 rfl) ?_
  refine lv_iconst (v := 3) hx hb dL_law_1656 (by decide) ?_
  refine lv_iadd hx hb dL_law_1657 ?_
  refine lv_topi (fun x_16 ex_16 => ?_)
  obtain rfl : x_16 = 3 := ex_16.trans (by decide +kernel)
  refine va_sld hx hb hX hbl hbA hS (show vp_in 3 6 from (by unfold vp_in; decide)) dL_law_1658 ?_
  refine lv_topi (fun x_17 ex_17 => ?_)
  obtain rfl : x_17 = 1 := ex_17.trans ((congrArg xs (by decide)).trans h3)
  refine lv_aload_n hx hb dL_law_1659 rfl (lv_at hl 3 rfl) ?_
  refine lv_iload_n hx hb dL_law_1660 rfl (lv_at hl 0 rfl) ?_
  refine lv_iconst (v := 4) hx hb dL_law_1661 (by decide) ?_
  refine lv_iadd hx hb dL_law_1662 ?_
  refine lv_topi (fun x_18 ex_18 => ?_)
  obtain rfl : x_18 = 4 := ex_18.trans (by decide +kernel)
  refine va_sld hx hb hX hbl hbA hS (show vp_in 4 6 from (by unfold vp_in; decide)) dL_law_1663 ?_
  refine lv_topi (fun x_19 ex_19 => ?_)
  obtain rfl : x_19 = xs 4 := ex_19.trans (congrArg xs (by decide))
  refine lv_aload_n hx hb dL_law_1664 rfl (lv_at hl 3 rfl) ?_
  refine lv_iload_n hx hb dL_law_1665 rfl (lv_at hl 0 rfl) ?_
  refine lv_iconst (v := 5) hx hb dL_law_1666 (by decide) ?_
  refine lv_iadd hx hb dL_law_1667 ?_
  refine lv_topi (fun x_20 ex_20 => ?_)
  obtain rfl : x_20 = 5 := ex_20.trans (by decide +kernel)
  refine va_sld hx hb hX hbl hbA hS (show vp_in 5 6 from (by unfold vp_in; decide)) dL_law_1668 ?_
  refine lv_topi (fun x_21 ex_21 => ?_)
  obtain rfl : x_21 = xs 5 := ex_21.trans (congrArg xs (by decide))
  have hPc := hP.sub (ws' := [(mq, .inr (9, [.int 0, .ref m_width, .ref m_many, .ref m_cells, .ref m_moved, .ref m_tape, .int 0, .int 0, .int 0, .int 0, .int 0, .long 0, .int 0, .int 0, .int 0, .int (-1), .ref m_lines, .ref m_has, .ref m_person, .ref m_letter, .int 0, .ref m_isKept, .ref m_more, .int 0, .ref m_came, .ref m_answered, .ref m_left, .ref m_leftOn, .ref m_isBurnt, .ref m_heard, .ref m_waitsOn, .ref m_idleOn, .ref m_row, .int 0, .int 0, .long 0, .ref m_key, .int 0, .int 0, .int 0, .int 0, .int 0, .int 0, .int 0, .int 0, .ref m_coming, .int 0, .ref m_tried, .ref m_bestOrder, .int 0, .int 0, .ref m_before, .int 0, .ref m_open])), (m_width, .inl (mk_width, 4, .inl (upd (upd (upd (upd (fun _ => 0) 0 (-1)) 1 (-1)) 2 (-1)) 3 (-1))))]) [0, 1] rfl
  have hDc := hD.sub (ws' := [(mq, .inr (9, [.int 0, .ref m_width, .ref m_many, .ref m_cells, .ref m_moved, .ref m_tape, .int 0, .int 0, .int 0, .int 0, .int 0, .long 0, .int 0, .int 0, .int 0, .int (-1), .ref m_lines, .ref m_has, .ref m_person, .ref m_letter, .int 0, .ref m_isKept, .ref m_more, .int 0, .ref m_came, .ref m_answered, .ref m_left, .ref m_leftOn, .ref m_isBurnt, .ref m_heard, .ref m_waitsOn, .ref m_idleOn, .ref m_row, .int 0, .int 0, .long 0, .ref m_key, .int 0, .int 0, .int 0, .int 0, .int 0, .int 0, .int 0, .int 0, .ref m_coming, .int 0, .ref m_tried, .ref m_bestOrder, .int 0, .int 0, .ref m_before, .int 0, .ref m_open])), (m_width, .inl (mk_width, 4, .inl (upd (upd (upd (upd (fun _ => 0) 0 (-1)) 1 (-1)) 2 (-1)) 3 (-1))))]) [0, 1] (by decide) rfl
  have hKc := hK.sub (tys' := [(mk_width, .int)]) [1] rfl
  have hFc := va_free (wc := [(mq, .inr (9, [.int 0, .ref m_width, .ref m_many, .ref m_cells, .ref m_moved, .ref m_tape, .int 0, .int 0, .int 0, .int 0, .int 0, .long 0, .int 0, .int 0, .int 0, .int (-1), .ref m_lines, .ref m_has, .ref m_person, .ref m_letter, .int 0, .ref m_isKept, .ref m_more, .int 0, .ref m_came, .ref m_answered, .ref m_left, .ref m_leftOn, .ref m_isBurnt, .ref m_heard, .ref m_waitsOn, .ref m_idleOn, .ref m_row, .int 0, .int 0, .long 0, .ref m_key, .int 0, .int 0, .int 0, .int 0, .int 0, .int 0, .int 0, .int 0, .ref m_coming, .int 0, .ref m_tried, .ref m_bestOrder, .int 0, .int 0, .ref m_before, .int 0, .ref m_open])), (m_width, .inl (mk_width, 4, .inl (upd (upd (upd (upd (fun _ => 0) 0 (-1)) 1 (-1)) 2 (-1)) 3 (-1))))]) hD hS hA [0, 1] rfl
  refine va_calli (va_runV (As := [.int 2, .int (xs 2), .int 1, .int (xs 4), .int (xs 5)]) (rest := [.int (-6)]) ⟨hx, hb, hml, hown, hts⟩ (mc_paste21 l dC dI H.size mq m_width m_many m_cells m_moved m_tape m_lines m_has m_person m_letter m_isKept m_more m_came m_answered m_left m_leftOn m_isBurnt m_heard m_waitsOn m_idleOn m_row m_key m_coming m_tried m_bestOrder m_before m_open mk_width ((xs 2)) ((xs 4)) ((xs 5)) ) (cwV 5 hts (goodV w_1368 w_1369 w_1370 w_5 w_1371) rfl rfl rfl hdV_X9_paste ⟨Nat.le_of_ble_eq_true rfl, Nat.le_of_ble_eq_true rfl⟩) ⟨fun a U g mk q => by obtain ⟨q0, q1, qP, qK, qD⟩ := q; exact ⟨q0, q1, qP, va_K.moved (u := U) (U := U.calling g mk a) (Vm.Alike.refl U.vm) qK, qD⟩, va_recv hKc hPc (ci := 9) (q0 := 0) rfl rfl, fun U hU hW => ⟨rfl, by rw [hU], by rw [hU]; exact hPc, va_K.moved hW.alike hKc, hDc.weaken (fun _ _ _ _ => trivial)⟩⟩ rfl rfl hl.1 rfl (lv_room (Nat.le_of_ble_eq_true rfl)) dL_law_1669 ⟨Nat.le_of_ble_eq_true rfl, Nat.le_of_ble_eq_true rfl⟩) hS (fun q _ h => hFc q h) hFc (fun r_22 u t H1 locs ht hvm hw hB hz1 hk1 hS => ?_)
  obtain ⟨hP, hD⟩ := va_join (wr := []) (w1 := []) hP hD [0, 1] [] rfl rfl (by decide) (by decide) hk1 hFc nilP nilD
  clear hPc hDc hKc hFc
  generalize H1 = H at hP hS ⊢
  have hP : va_P (dC, dI) vwCl [] H := hP
  have hD : va_D (fun q : Nat => s.heap.size ≤ q) [] := hD
  have hw : r_22 = (-6) := hw
  subst hw
  refine lv_icmp_eq (tgt := 1677) hx hb dL_law_1672 (by decide) (fun c_23 => ?_) (fun c_23 => absurd (by decide) c_23)
  exact law_tail C0 hS (lv_sub hl [0, 3] rfl)

set_option maxHeartbeats 4000000 in
set_option maxRecDepth 100000 in
theorem law_paste22 {p : Program} {l : Launch} {e : Env} {s : State} {m : MethodId} {below : List Frame} {meth : Method} {c : Code} {dC : Nat → ClassId} {dI : Nat → Nat → Nat} {b : Nat} {xs : Nat → Int32} {H : Heap} {locs : List Loc} {ls : Array Slot} {x_tape : Nat} {x_reader : Nat} {x_current : Nat} {x_images : Nat} {x_kept : Nat} {x_slots : Nat} {x_diary : Nat} {x_base : Nat} {x_trial : Nat} {x_plan : Nat} {x_orders : Nat} {x_unanswered : Nat} {s0 : Nat} {s1 : Nat} {s2 : Nat} {s3 : Nat} {y2 : Nat} {zk : ClassId} {m_width : Nat} {m_many : Nat} {m_cells : Nat} {m_moved : Nat} {m_tape : Nat} {m_lines : Nat} {m_has : Nat} {m_person : Nat} {m_letter : Nat} {m_isKept : Nat} {m_more : Nat} {m_came : Nat} {m_answered : Nat} {m_left : Nat} {m_leftOn : Nat} {m_isBurnt : Nat} {m_heard : Nat} {m_waitsOn : Nat} {m_idleOn : Nat} {m_row : Nat} {m_key : Nat} {m_coming : Nat} {m_tried : Nat} {m_bestOrder : Nat} {m_before : Nat} {m_open : Nat} {mk_width : ClassId} {xq : Nat} {mq : Nat} (C0 : lw_At p s m meth c b 6 xs) (h1 : xs 1 = 2) (h3 : xs 3 = 2) (hK : va_K (dC, dI) vwCl [(zk, .object RX5), (mk_width, .int)] s) (hP : va_P (dC, dI) vwCl [(xq, .inr (8, [.ref x_tape, .ref x_reader, .ref x_current, .ref x_images, .ref x_kept, .ref x_slots, .ref x_diary, .ref x_base, .ref x_trial, .ref x_plan, .ref x_orders, .ref x_unanswered, .int 0, .int 0, .int (-1)])), (x_slots, .inl (zk, 4, .inr (.inr (.inr (.inr (va_up (va_up (va_up (va_up (fun _ => none) 0 (some s0)) 1 (some s1)) 2 (some s2)) 3 (some s3))))))), (s2, .inr (5, [.ref y2, .int 0, .int 0, .int 0])), (mq, .inr (9, [.int 0, .ref m_width, .ref m_many, .ref m_cells, .ref m_moved, .ref m_tape, .int 0, .int 0, .int 0, .int 0, .int 0, .long 0, .int 0, .int 0, .int 0, .int (-1), .ref m_lines, .ref m_has, .ref m_person, .ref m_letter, .int 0, .ref m_isKept, .ref m_more, .int 0, .ref m_came, .ref m_answered, .ref m_left, .ref m_leftOn, .ref m_isBurnt, .ref m_heard, .ref m_waitsOn, .ref m_idleOn, .ref m_row, .int 0, .int 0, .long 0, .ref m_key, .int 0, .int 0, .int 0, .int 0, .int 0, .int 0, .int 0, .int 0, .ref m_coming, .int 0, .ref m_tried, .ref m_bestOrder, .int 0, .int 0, .ref m_before, .int 0, .ref m_open])), (m_width, .inl (mk_width, 4, .inl (upd (upd (upd (upd (fun _ => 0) 0 (-1)) 1 (-1)) 2 (-1)) 3 (-1))))] H) (hD : va_D (fun q : Nat => s.heap.size ≤ q) [(xq, .inr (8, [.ref x_tape, .ref x_reader, .ref x_current, .ref x_images, .ref x_kept, .ref x_slots, .ref x_diary, .ref x_base, .ref x_trial, .ref x_plan, .ref x_orders, .ref x_unanswered, .int 0, .int 0, .int (-1)])), (x_slots, .inl (zk, 4, .inr (.inr (.inr (.inr (va_up (va_up (va_up (va_up (fun _ => none) 0 (some s0)) 1 (some s1)) 2 (some s2)) 3 (some s3))))))), (s2, .inr (5, [.ref y2, .int 0, .int 0, .int 0])), (mq, .inr (9, [.int 0, .ref m_width, .ref m_many, .ref m_cells, .ref m_moved, .ref m_tape, .int 0, .int 0, .int 0, .int 0, .int 0, .long 0, .int 0, .int 0, .int 0, .int (-1), .ref m_lines, .ref m_has, .ref m_person, .ref m_letter, .int 0, .ref m_isKept, .ref m_more, .int 0, .ref m_came, .ref m_answered, .ref m_left, .ref m_leftOn, .ref m_isBurnt, .ref m_heard, .ref m_waitsOn, .ref m_idleOn, .ref m_row, .int 0, .int 0, .long 0, .ref m_key, .int 0, .int 0, .int 0, .int 0, .int 0, .int 0, .int 0, .int 0, .ref m_coming, .int 0, .ref m_tried, .ref m_bestOrder, .int 0, .int 0, .ref m_before, .int 0, .ref m_open])), (m_width, .inl (mk_width, 4, .inl (upd (upd (upd (upd (fun _ => 0) 0 (-1)) 1 (-1)) 2 (-1)) 3 (-1))))]) (hS : va_S (fun q : Nat => s.heap.size ≤ q) s.heap H locs) (hl : lv_has ls 4 [(3, .int 0), (2, .ref mq), (1, .ref xq), (0, .ref b)]) : W p l e room_1 s m #[Value.ref b] below meth c H locs 144 16687 (lw_Z below #[Value.ref b] s) (F0 m 1614 ls []) := by
  obtain ⟨hx, hb, hr, hml, hown, hts0, hX, hbl, hlocks, hgv⟩ := id C0
  have hts : ∀ w ∈ ALLW, w.before #[Value.ref b] s = true := fun w h => hts0 w (inT w h)
  have hA : ∀ q : Nat, s.heap.size ≤ q → (fun q : Nat => s.heap.size ≤ q) q := fun _ h => h
  have hbA : ¬ (fun q : Nat => s.heap.size ≤ q) b := Nat.not_le.mpr hbl
  refine lv_aload_n hx hb dL_law_1614 rfl (lv_at hl 2 rfl) ?_
  refine lv_aload_n hx hb dL_law_1615 rfl (lv_at hl 3 rfl) ?_
  refine lv_iload_n hx hb dL_law_1616 rfl (lv_at hl 0 rfl) ?_
  refine lv_iconst (v := 1) hx hb dL_law_1617 (by decide) ?_
  refine lv_iadd hx hb dL_law_1618 ?_
  refine lv_topi (fun x_1 ex_1 => ?_)
  obtain rfl : x_1 = 1 := ex_1.trans (by decide +kernel)
  refine va_sld hx hb hX hbl hbA hS (show vp_in 1 6 from (by unfold vp_in; decide)) dL_law_1619 ?_
  refine lv_topi (fun x_2 ex_2 => ?_)
  obtain rfl : x_2 = 2 := ex_2.trans ((congrArg xs (by decide)).trans h1)
  refine lv_aload_n hx hb dL_law_1620 rfl (lv_at hl 3 rfl) ?_
  refine lv_iload_n hx hb dL_law_1621 rfl (lv_at hl 0 rfl) ?_
  refine lv_iconst (v := 2) hx hb dL_law_1622 (by decide) ?_
  refine lv_iadd hx hb dL_law_1623 ?_
  refine lv_topi (fun x_3 ex_3 => ?_)
  obtain rfl : x_3 = 2 := ex_3.trans (by decide +kernel)
  refine va_sld hx hb hX hbl hbA hS (show vp_in 2 6 from (by unfold vp_in; decide)) dL_law_1624 ?_
  refine lv_topi (fun x_4 ex_4 => ?_)
  obtain rfl : x_4 = xs 2 := ex_4.trans (congrArg xs (by decide))
  refine lv_aload_n hx hb dL_law_1625 rfl (lv_at hl 3 rfl) ?_
  refine lv_iload_n hx hb dL_law_1626 rfl (lv_at hl 0 rfl) ?_
  refine lv_iconst (v := 3) hx hb dL_law_1627 (by decide) ?_
  refine lv_iadd hx hb dL_law_1628 ?_
  refine lv_topi (fun x_5 ex_5 => ?_)
  obtain rfl : x_5 = 3 := ex_5.trans (by decide +kernel)
  refine va_sld hx hb hX hbl hbA hS (show vp_in 3 6 from (by unfold vp_in; decide)) dL_law_1629 ?_
  refine lv_topi (fun x_6 ex_6 => ?_)
  obtain rfl : x_6 = 2 := ex_6.trans ((congrArg xs (by decide)).trans h3)
  refine lv_aload_n hx hb dL_law_1630 rfl (lv_at hl 3 rfl) ?_
  refine lv_iload_n hx hb dL_law_1631 rfl (lv_at hl 0 rfl) ?_
  refine lv_iconst (v := 4) hx hb dL_law_1632 (by decide) ?_
  refine lv_iadd hx hb dL_law_1633 ?_
  refine lv_topi (fun x_7 ex_7 => ?_)
  obtain rfl : x_7 = 4 := ex_7.trans (by decide +kernel)
  refine va_sld hx hb hX hbl hbA hS (show vp_in 4 6 from (by unfold vp_in; decide)) dL_law_1634 ?_
  refine lv_topi (fun x_8 ex_8 => ?_)
  obtain rfl : x_8 = xs 4 := ex_8.trans (congrArg xs (by decide))
  refine lv_aload_n hx hb dL_law_1635 rfl (lv_at hl 3 rfl) ?_
  refine lv_iload_n hx hb dL_law_1636 rfl (lv_at hl 0 rfl) ?_
  refine lv_iconst (v := 5) hx hb dL_law_1637 (by decide) ?_
  refine lv_iadd hx hb dL_law_1638 ?_
  refine lv_topi (fun x_9 ex_9 => ?_)
  obtain rfl : x_9 = 5 := ex_9.trans (by decide +kernel)
  refine va_sld hx hb hX hbl hbA hS (show vp_in 5 6 from (by unfold vp_in; decide)) dL_law_1639 ?_
  refine lv_topi (fun x_10 ex_10 => ?_)
  obtain rfl : x_10 = xs 5 := ex_10.trans (congrArg xs (by decide))
  have hPc := hP.sub (ws' := [(xq, .inr (8, [.ref x_tape, .ref x_reader, .ref x_current, .ref x_images, .ref x_kept, .ref x_slots, .ref x_diary, .ref x_base, .ref x_trial, .ref x_plan, .ref x_orders, .ref x_unanswered, .int 0, .int 0, .int (-1)])), (x_slots, .inl (zk, 4, .inr (.inr (.inr (.inr (va_up (va_up (va_up (va_up (fun _ => none) 0 (some s0)) 1 (some s1)) 2 (some s2)) 3 (some s3))))))), (s2, .inr (5, [.ref y2, .int 0, .int 0, .int 0]))]) [0, 1, 2] rfl
  have hDc := hD.sub (ws' := [(xq, .inr (8, [.ref x_tape, .ref x_reader, .ref x_current, .ref x_images, .ref x_kept, .ref x_slots, .ref x_diary, .ref x_base, .ref x_trial, .ref x_plan, .ref x_orders, .ref x_unanswered, .int 0, .int 0, .int (-1)])), (x_slots, .inl (zk, 4, .inr (.inr (.inr (.inr (va_up (va_up (va_up (va_up (fun _ => none) 0 (some s0)) 1 (some s1)) 2 (some s2)) 3 (some s3))))))), (s2, .inr (5, [.ref y2, .int 0, .int 0, .int 0]))]) [0, 1, 2] (by decide) rfl
  have hKc := hK.sub (tys' := [(zk, .object RX5)]) [0] rfl
  have hFc := va_free (wc := [(xq, .inr (8, [.ref x_tape, .ref x_reader, .ref x_current, .ref x_images, .ref x_kept, .ref x_slots, .ref x_diary, .ref x_base, .ref x_trial, .ref x_plan, .ref x_orders, .ref x_unanswered, .int 0, .int 0, .int (-1)])), (x_slots, .inl (zk, 4, .inr (.inr (.inr (.inr (va_up (va_up (va_up (va_up (fun _ => none) 0 (some s0)) 1 (some s1)) 2 (some s2)) 3 (some s3))))))), (s2, .inr (5, [.ref y2, .int 0, .int 0, .int 0]))]) hD hS hA [0, 1, 2] rfl
  refine va_calli (va_runV (As := [.int 2, .int (xs 2), .int 2, .int (xs 4), .int (xs 5)]) (rest := []) ⟨hx, hb, hml, hown, hts⟩ (x_paste22 l dC dI H.size xq x_tape x_reader x_current x_images x_kept x_slots x_diary x_base x_trial x_plan x_orders x_unanswered s0 s1 s2 s3 0 0 y2 0 zk ((xs 2)) ((xs 4)) ((xs 5)) ) (cwV 5 hts (goodV w_1358 w_1359 w_1360 w_2 w_1361) rfl rfl rfl hdV_X8_paste ⟨Nat.le_of_ble_eq_true rfl, Nat.le_of_ble_eq_true rfl⟩) ⟨fun a U g mk q => by obtain ⟨q0, q1, qP, qK, qD⟩ := q; exact ⟨q0, q1, qP, va_K.moved (u := U) (U := U.calling g mk a) (Vm.Alike.refl U.vm) qK, qD⟩, va_recv hKc hPc (ci := 8) (q0 := 0) rfl rfl, fun U hU hW => ⟨rfl, by rw [hU], by rw [hU]; exact hPc, va_K.moved hW.alike hKc, hDc.weaken (fun _ _ _ _ => trivial)⟩⟩ rfl rfl hl.1 rfl (lv_room (Nat.le_of_ble_eq_true rfl)) dL_law_1640 ⟨Nat.le_of_ble_eq_true rfl, Nat.le_of_ble_eq_true rfl⟩) hS (fun q _ h => hFc q h) hFc (fun r_11 u t H1 locs ht hvm hw hB hz1 hk1 hS => ?_)
  obtain ⟨hP, hD⟩ := va_join (wr := [(mq, .inr (9, [.int 0, .ref m_width, .ref m_many, .ref m_cells, .ref m_moved, .ref m_tape, .int 0, .int 0, .int 0, .int 0, .int 0, .long 0, .int 0, .int 0, .int 0, .int (-1), .ref m_lines, .ref m_has, .ref m_person, .ref m_letter, .int 0, .ref m_isKept, .ref m_more, .int 0, .ref m_came, .ref m_answered, .ref m_left, .ref m_leftOn, .ref m_isBurnt, .ref m_heard, .ref m_waitsOn, .ref m_idleOn, .ref m_row, .int 0, .int 0, .long 0, .ref m_key, .int 0, .int 0, .int 0, .int 0, .int 0, .int 0, .int 0, .int 0, .ref m_coming, .int 0, .ref m_tried, .ref m_bestOrder, .int 0, .int 0, .ref m_before, .int 0, .ref m_open])), (m_width, .inl (mk_width, 4, .inl (upd (upd (upd (upd (fun _ => 0) 0 (-1)) 1 (-1)) 2 (-1)) 3 (-1))))]) (w1 := []) hP hD [0, 1, 2] [3, 4] rfl rfl (by decide) (by decide) hk1 hFc nilP nilD
  clear hPc hDc hKc hFc
  generalize H1 = H at hP hS ⊢
  have hP : va_P (dC, dI) vwCl [(mq, .inr (9, [.int 0, .ref m_width, .ref m_many, .ref m_cells, .ref m_moved, .ref m_tape, .int 0, .int 0, .int 0, .int 0, .int 0, .long 0, .int 0, .int 0, .int 0, .int (-1), .ref m_lines, .ref m_has, .ref m_person, .ref m_letter, .int 0, .ref m_isKept, .ref m_more, .int 0, .ref m_came, .ref m_answered, .ref m_left, .ref m_leftOn, .ref m_isBurnt, .ref m_heard, .ref m_waitsOn, .ref m_idleOn, .ref m_row, .int 0, .int 0, .long 0, .ref m_key, .int 0, .int 0, .int 0, .int 0, .int 0, .int 0, .int 0, .int 0, .ref m_coming, .int 0, .ref m_tried, .ref m_bestOrder, .int 0, .int 0, .ref m_before, .int 0, .ref m_open])), (m_width, .inl (mk_width, 4, .inl (upd (upd (upd (upd (fun _ => 0) 0 (-1)) 1 (-1)) 2 (-1)) 3 (-1))))] H := hP
  have hD : va_D (fun q : Nat => s.heap.size ≤ q) [(mq, .inr (9, [.int 0, .ref m_width, .ref m_many, .ref m_cells, .ref m_moved, .ref m_tape, .int 0, .int 0, .int 0, .int 0, .int 0, .long 0, .int 0, .int 0, .int 0, .int (-1), .ref m_lines, .ref m_has, .ref m_person, .ref m_letter, .int 0, .ref m_isKept, .ref m_more, .int 0, .ref m_came, .ref m_answered, .ref m_left, .ref m_leftOn, .ref m_isBurnt, .ref m_heard, .ref m_waitsOn, .ref m_idleOn, .ref m_row, .int 0, .int 0, .long 0, .ref m_key, .int 0, .int 0, .int 0, .int 0, .int 0, .int 0, .int 0, .int 0, .ref m_coming, .int 0, .ref m_tried, .ref m_bestOrder, .int 0, .int 0, .ref m_before, .int 0, .ref m_open])), (m_width, .inl (mk_width, 4, .inl (upd (upd (upd (upd (fun _ => 0) 0 (-1)) 1 (-1)) 2 (-1)) 3 (-1))))] := hD
  have hw : r_11 = (-6) := hw
  subst hw
  refine lv_aload_n hx hb dL_law_1643 rfl (lv_at hl 1 rfl) ?_
  refine lv_aload_n hx hb dL_law_1644 rfl (lv_at hl 3 rfl) ?_
  refine lv_iload_n hx hb dL_law_1645 rfl (lv_at hl 0 rfl) ?_
  refine lv_iconst (v := 1) hx hb dL_law_1646 (by decide) ?_
  refine lv_iadd hx hb dL_law_1647 ?_
  refine lv_topi (fun x_12 ex_12 => ?_)
  obtain rfl : x_12 = 1 := ex_12.trans (by decide +kernel)
  refine va_sld hx hb hX hbl hbA hS (show vp_in 1 6 from (by unfold vp_in; decide)) dL_law_1648 ?_
  refine lv_topi (fun x_13 ex_13 => ?_)
  obtain rfl : x_13 = 2 := ex_13.trans ((congrArg xs (by decide)).trans h1)
  refine lv_aload_n hx hb dL_law_1649 rfl (lv_at hl 3 rfl) ?_
  refine lv_iload_n hx hb dL_law_1650 rfl (lv_at hl 0 rfl) ?_
  refine lv_iconst (v := 2) hx hb dL_law_1651 (by decide) ?_
  refine lv_iadd hx hb dL_law_1652 ?_
  refine lv_topi (fun x_14 ex_14 => ?_)
  obtain rfl : x_14 = 2 := ex_14.trans (by decide +kernel)
  refine va_sld hx hb hX hbl hbA hS (show vp_in 2 6 from (by unfold vp_in; decide)) dL_law_1653 ?_
  refine lv_topi (fun x_15 ex_15 => ?_)
  obtain rfl : x_15 = xs 2 := ex_15.trans (congrArg xs (by decide))
  refine lv_aload_n hx hb dL_law_1654 rfl (lv_at hl 3 rfl) ?_
  refine lv_iload_n hx hb dL_law_1655 rfl (lv_at hl 0 rfl) ?_
  refine lv_iconst (v := 3) hx hb dL_law_1656 (by decide) ?_
  refine lv_iadd hx hb dL_law_1657 ?_
  refine lv_topi (fun x_16 ex_16 => ?_)
  obtain rfl : x_16 = 3 := ex_16.trans (by decide +kernel)
  refine va_sld hx hb hX hbl hbA hS (show vp_in 3 6 from (by unfold vp_in; decide)) dL_law_1658 ?_
  refine lv_topi (fun x_17 ex_17 => ?_)
  obtain rfl : x_17 = 2 := ex_17.trans ((congrArg xs (by decide)).trans h3)
  refine lv_aload_n hx hb dL_law_1659 rfl (lv_at hl 3 rfl) ?_
  refine lv_iload_n hx hb dL_law_1660 rfl (lv_at hl 0 rfl) ?_
  refine lv_iconst (v := 4) hx hb dL_law_1661 (by decide) ?_
  refine lv_iadd hx hb dL_law_1662 ?_
  refine lv_topi (fun x_18 ex_18 => ?_)
  obtain rfl : x_18 = 4 := ex_18.trans (by decide +kernel)
  refine va_sld hx hb hX hbl hbA hS (show vp_in 4 6 from (by unfold vp_in; decide)) dL_law_1663 ?_
  refine lv_topi (fun x_19 ex_19 => ?_)
  obtain rfl : x_19 = xs 4 := ex_19.trans (congrArg xs (by decide))
  refine lv_aload_n hx hb dL_law_1664 rfl (lv_at hl 3 rfl) ?_
  refine lv_iload_n hx hb dL_law_1665 rfl (lv_at hl 0 rfl) ?_
  refine lv_iconst (v := 5) hx hb dL_law_1666 (by decide) ?_
  refine lv_iadd hx hb dL_law_1667 ?_
  refine lv_topi (fun x_20 ex_20 => ?_)
  obtain rfl : x_20 = 5 := ex_20.trans (by decide +kernel)
  refine va_sld hx hb hX hbl hbA hS (show vp_in 5 6 from (by unfold vp_in; decide)) dL_law_1668 ?_
  refine lv_topi (fun x_21 ex_21 => ?_)
  obtain rfl : x_21 = xs 5 := ex_21.trans (congrArg xs (by decide))
  have hPc := hP.sub (ws' := [(mq, .inr (9, [.int 0, .ref m_width, .ref m_many, .ref m_cells, .ref m_moved, .ref m_tape, .int 0, .int 0, .int 0, .int 0, .int 0, .long 0, .int 0, .int 0, .int 0, .int (-1), .ref m_lines, .ref m_has, .ref m_person, .ref m_letter, .int 0, .ref m_isKept, .ref m_more, .int 0, .ref m_came, .ref m_answered, .ref m_left, .ref m_leftOn, .ref m_isBurnt, .ref m_heard, .ref m_waitsOn, .ref m_idleOn, .ref m_row, .int 0, .int 0, .long 0, .ref m_key, .int 0, .int 0, .int 0, .int 0, .int 0, .int 0, .int 0, .int 0, .ref m_coming, .int 0, .ref m_tried, .ref m_bestOrder, .int 0, .int 0, .ref m_before, .int 0, .ref m_open])), (m_width, .inl (mk_width, 4, .inl (upd (upd (upd (upd (fun _ => 0) 0 (-1)) 1 (-1)) 2 (-1)) 3 (-1))))]) [0, 1] rfl
  have hDc := hD.sub (ws' := [(mq, .inr (9, [.int 0, .ref m_width, .ref m_many, .ref m_cells, .ref m_moved, .ref m_tape, .int 0, .int 0, .int 0, .int 0, .int 0, .long 0, .int 0, .int 0, .int 0, .int (-1), .ref m_lines, .ref m_has, .ref m_person, .ref m_letter, .int 0, .ref m_isKept, .ref m_more, .int 0, .ref m_came, .ref m_answered, .ref m_left, .ref m_leftOn, .ref m_isBurnt, .ref m_heard, .ref m_waitsOn, .ref m_idleOn, .ref m_row, .int 0, .int 0, .long 0, .ref m_key, .int 0, .int 0, .int 0, .int 0, .int 0, .int 0, .int 0, .int 0, .ref m_coming, .int 0, .ref m_tried, .ref m_bestOrder, .int 0, .int 0, .ref m_before, .int 0, .ref m_open])), (m_width, .inl (mk_width, 4, .inl (upd (upd (upd (upd (fun _ => 0) 0 (-1)) 1 (-1)) 2 (-1)) 3 (-1))))]) [0, 1] (by decide) rfl
  have hKc := hK.sub (tys' := [(mk_width, .int)]) [1] rfl
  have hFc := va_free (wc := [(mq, .inr (9, [.int 0, .ref m_width, .ref m_many, .ref m_cells, .ref m_moved, .ref m_tape, .int 0, .int 0, .int 0, .int 0, .int 0, .long 0, .int 0, .int 0, .int 0, .int (-1), .ref m_lines, .ref m_has, .ref m_person, .ref m_letter, .int 0, .ref m_isKept, .ref m_more, .int 0, .ref m_came, .ref m_answered, .ref m_left, .ref m_leftOn, .ref m_isBurnt, .ref m_heard, .ref m_waitsOn, .ref m_idleOn, .ref m_row, .int 0, .int 0, .long 0, .ref m_key, .int 0, .int 0, .int 0, .int 0, .int 0, .int 0, .int 0, .int 0, .ref m_coming, .int 0, .ref m_tried, .ref m_bestOrder, .int 0, .int 0, .ref m_before, .int 0, .ref m_open])), (m_width, .inl (mk_width, 4, .inl (upd (upd (upd (upd (fun _ => 0) 0 (-1)) 1 (-1)) 2 (-1)) 3 (-1))))]) hD hS hA [0, 1] rfl
  refine va_calli (va_runV (As := [.int 2, .int (xs 2), .int 2, .int (xs 4), .int (xs 5)]) (rest := [.int (-6)]) ⟨hx, hb, hml, hown, hts⟩ (mc_paste22 l dC dI H.size mq m_width m_many m_cells m_moved m_tape m_lines m_has m_person m_letter m_isKept m_more m_came m_answered m_left m_leftOn m_isBurnt m_heard m_waitsOn m_idleOn m_row m_key m_coming m_tried m_bestOrder m_before m_open mk_width ((xs 2)) ((xs 4)) ((xs 5)) ) (cwV 5 hts (goodV w_1368 w_1369 w_1370 w_5 w_1371) rfl rfl rfl hdV_X9_paste ⟨Nat.le_of_ble_eq_true rfl, Nat.le_of_ble_eq_true rfl⟩) ⟨fun a U g mk q => by obtain ⟨q0, q1, qP, qK, qD⟩ := q; exact ⟨q0, q1, qP, va_K.moved (u := U) (U := U.calling g mk a) (Vm.Alike.refl U.vm) qK, qD⟩, va_recv hKc hPc (ci := 9) (q0 := 0) rfl rfl, fun U hU hW => ⟨rfl, by rw [hU], by rw [hU]; exact hPc, va_K.moved hW.alike hKc, hDc.weaken (fun _ _ _ _ => trivial)⟩⟩ rfl rfl hl.1 rfl (lv_room (Nat.le_of_ble_eq_true rfl)) dL_law_1669 ⟨Nat.le_of_ble_eq_true rfl, Nat.le_of_ble_eq_true rfl⟩) hS (fun q _ h => hFc q h) hFc (fun r_22 u t H1 locs ht hvm hw hB hz1 hk1 hS => ?_)
  obtain ⟨hP, hD⟩ := va_join (wr := []) (w1 := []) hP hD [0, 1] [] rfl rfl (by decide) (by decide) hk1 hFc nilP nilD
  clear hPc hDc hKc hFc
  generalize H1 = H at hP hS ⊢
  have hP : va_P (dC, dI) vwCl [] H := hP
  have hD : va_D (fun q : Nat => s.heap.size ≤ q) [] := hD
  have hw : r_22 = (-6) := hw
  subst hw
  refine lv_icmp_eq (tgt := 1677) hx hb dL_law_1672 (by decide) (fun c_23 => ?_) (fun c_23 => absurd (by decide) c_23)
  exact law_tail C0 hS (lv_sub hl [0, 3] rfl)

set_option maxHeartbeats 4000000 in
set_option maxRecDepth 100000 in
theorem law_paste23 {p : Program} {l : Launch} {e : Env} {s : State} {m : MethodId} {below : List Frame} {meth : Method} {c : Code} {dC : Nat → ClassId} {dI : Nat → Nat → Nat} {b : Nat} {xs : Nat → Int32} {H : Heap} {locs : List Loc} {ls : Array Slot} {x_tape : Nat} {x_reader : Nat} {x_current : Nat} {x_images : Nat} {x_kept : Nat} {x_slots : Nat} {x_diary : Nat} {x_base : Nat} {x_trial : Nat} {x_plan : Nat} {x_orders : Nat} {x_unanswered : Nat} {s0 : Nat} {s1 : Nat} {s2 : Nat} {s3 : Nat} {y2 : Nat} {y3 : Nat} {zk : ClassId} {m_width : Nat} {m_many : Nat} {m_cells : Nat} {m_moved : Nat} {m_tape : Nat} {m_lines : Nat} {m_has : Nat} {m_person : Nat} {m_letter : Nat} {m_isKept : Nat} {m_more : Nat} {m_came : Nat} {m_answered : Nat} {m_left : Nat} {m_leftOn : Nat} {m_isBurnt : Nat} {m_heard : Nat} {m_waitsOn : Nat} {m_idleOn : Nat} {m_row : Nat} {m_key : Nat} {m_coming : Nat} {m_tried : Nat} {m_bestOrder : Nat} {m_before : Nat} {m_open : Nat} {mk_width : ClassId} {xq : Nat} {mq : Nat} (C0 : lw_At p s m meth c b 6 xs) (h1 : xs 1 = 2) (h3 : xs 3 = 3) (hK : va_K (dC, dI) vwCl [(zk, .object RX5), (mk_width, .int)] s) (hP : va_P (dC, dI) vwCl [(xq, .inr (8, [.ref x_tape, .ref x_reader, .ref x_current, .ref x_images, .ref x_kept, .ref x_slots, .ref x_diary, .ref x_base, .ref x_trial, .ref x_plan, .ref x_orders, .ref x_unanswered, .int 0, .int 0, .int (-1)])), (x_slots, .inl (zk, 4, .inr (.inr (.inr (.inr (va_up (va_up (va_up (va_up (fun _ => none) 0 (some s0)) 1 (some s1)) 2 (some s2)) 3 (some s3))))))), (s2, .inr (5, [.ref y2, .int 0, .int 0, .int 0])), (s3, .inr (5, [.ref y3, .int 0, .int 0, .int 0])), (mq, .inr (9, [.int 0, .ref m_width, .ref m_many, .ref m_cells, .ref m_moved, .ref m_tape, .int 0, .int 0, .int 0, .int 0, .int 0, .long 0, .int 0, .int 0, .int 0, .int (-1), .ref m_lines, .ref m_has, .ref m_person, .ref m_letter, .int 0, .ref m_isKept, .ref m_more, .int 0, .ref m_came, .ref m_answered, .ref m_left, .ref m_leftOn, .ref m_isBurnt, .ref m_heard, .ref m_waitsOn, .ref m_idleOn, .ref m_row, .int 0, .int 0, .long 0, .ref m_key, .int 0, .int 0, .int 0, .int 0, .int 0, .int 0, .int 0, .int 0, .ref m_coming, .int 0, .ref m_tried, .ref m_bestOrder, .int 0, .int 0, .ref m_before, .int 0, .ref m_open])), (m_width, .inl (mk_width, 4, .inl (upd (upd (upd (upd (fun _ => 0) 0 (-1)) 1 (-1)) 2 (-1)) 3 (-1))))] H) (hD : va_D (fun q : Nat => s.heap.size ≤ q) [(xq, .inr (8, [.ref x_tape, .ref x_reader, .ref x_current, .ref x_images, .ref x_kept, .ref x_slots, .ref x_diary, .ref x_base, .ref x_trial, .ref x_plan, .ref x_orders, .ref x_unanswered, .int 0, .int 0, .int (-1)])), (x_slots, .inl (zk, 4, .inr (.inr (.inr (.inr (va_up (va_up (va_up (va_up (fun _ => none) 0 (some s0)) 1 (some s1)) 2 (some s2)) 3 (some s3))))))), (s2, .inr (5, [.ref y2, .int 0, .int 0, .int 0])), (s3, .inr (5, [.ref y3, .int 0, .int 0, .int 0])), (mq, .inr (9, [.int 0, .ref m_width, .ref m_many, .ref m_cells, .ref m_moved, .ref m_tape, .int 0, .int 0, .int 0, .int 0, .int 0, .long 0, .int 0, .int 0, .int 0, .int (-1), .ref m_lines, .ref m_has, .ref m_person, .ref m_letter, .int 0, .ref m_isKept, .ref m_more, .int 0, .ref m_came, .ref m_answered, .ref m_left, .ref m_leftOn, .ref m_isBurnt, .ref m_heard, .ref m_waitsOn, .ref m_idleOn, .ref m_row, .int 0, .int 0, .long 0, .ref m_key, .int 0, .int 0, .int 0, .int 0, .int 0, .int 0, .int 0, .int 0, .ref m_coming, .int 0, .ref m_tried, .ref m_bestOrder, .int 0, .int 0, .ref m_before, .int 0, .ref m_open])), (m_width, .inl (mk_width, 4, .inl (upd (upd (upd (upd (fun _ => 0) 0 (-1)) 1 (-1)) 2 (-1)) 3 (-1))))]) (hS : va_S (fun q : Nat => s.heap.size ≤ q) s.heap H locs) (hl : lv_has ls 4 [(3, .int 0), (2, .ref mq), (1, .ref xq), (0, .ref b)]) : W p l e room_1 s m #[Value.ref b] below meth c H locs 144 16687 (lw_Z below #[Value.ref b] s) (F0 m 1614 ls []) := by
  obtain ⟨hx, hb, hr, hml, hown, hts0, hX, hbl, hlocks, hgv⟩ := id C0
  have hts : ∀ w ∈ ALLW, w.before #[Value.ref b] s = true := fun w h => hts0 w (inT w h)
  have hA : ∀ q : Nat, s.heap.size ≤ q → (fun q : Nat => s.heap.size ≤ q) q := fun _ h => h
  have hbA : ¬ (fun q : Nat => s.heap.size ≤ q) b := Nat.not_le.mpr hbl
  refine lv_aload_n hx hb dL_law_1614 rfl (lv_at hl 2 rfl) ?_
  refine lv_aload_n hx hb dL_law_1615 rfl (lv_at hl 3 rfl) ?_
  refine lv_iload_n hx hb dL_law_1616 rfl (lv_at hl 0 rfl) ?_
  refine lv_iconst (v := 1) hx hb dL_law_1617 (by decide) ?_
  refine lv_iadd hx hb dL_law_1618 ?_
  refine lv_topi (fun x_1 ex_1 => ?_)
  obtain rfl : x_1 = 1 := ex_1.trans (by decide +kernel)
  refine va_sld hx hb hX hbl hbA hS (show vp_in 1 6 from (by unfold vp_in; decide)) dL_law_1619 ?_
  refine lv_topi (fun x_2 ex_2 => ?_)
  obtain rfl : x_2 = 2 := ex_2.trans ((congrArg xs (by decide)).trans h1)
  refine lv_aload_n hx hb dL_law_1620 rfl (lv_at hl 3 rfl) ?_
  refine lv_iload_n hx hb dL_law_1621 rfl (lv_at hl 0 rfl) ?_
  refine lv_iconst (v := 2) hx hb dL_law_1622 (by decide) ?_
  refine lv_iadd hx hb dL_law_1623 ?_
  refine lv_topi (fun x_3 ex_3 => ?_)
  obtain rfl : x_3 = 2 := ex_3.trans (by decide +kernel)
  refine va_sld hx hb hX hbl hbA hS (show vp_in 2 6 from (by unfold vp_in; decide)) dL_law_1624 ?_
  refine lv_topi (fun x_4 ex_4 => ?_)
  obtain rfl : x_4 = xs 2 := ex_4.trans (congrArg xs (by decide))
  refine lv_aload_n hx hb dL_law_1625 rfl (lv_at hl 3 rfl) ?_
  refine lv_iload_n hx hb dL_law_1626 rfl (lv_at hl 0 rfl) ?_
  refine lv_iconst (v := 3) hx hb dL_law_1627 (by decide) ?_
  refine lv_iadd hx hb dL_law_1628 ?_
  refine lv_topi (fun x_5 ex_5 => ?_)
  obtain rfl : x_5 = 3 := ex_5.trans (by decide +kernel)
  refine va_sld hx hb hX hbl hbA hS (show vp_in 3 6 from (by unfold vp_in; decide)) dL_law_1629 ?_
  refine lv_topi (fun x_6 ex_6 => ?_)
  obtain rfl : x_6 = 3 := ex_6.trans ((congrArg xs (by decide)).trans h3)
  refine lv_aload_n hx hb dL_law_1630 rfl (lv_at hl 3 rfl) ?_
  refine lv_iload_n hx hb dL_law_1631 rfl (lv_at hl 0 rfl) ?_
  refine lv_iconst (v := 4) hx hb dL_law_1632 (by decide) ?_
  refine lv_iadd hx hb dL_law_1633 ?_
  refine lv_topi (fun x_7 ex_7 => ?_)
  obtain rfl : x_7 = 4 := ex_7.trans (by decide +kernel)
  refine va_sld hx hb hX hbl hbA hS (show vp_in 4 6 from (by unfold vp_in; decide)) dL_law_1634 ?_
  refine lv_topi (fun x_8 ex_8 => ?_)
  obtain rfl : x_8 = xs 4 := ex_8.trans (congrArg xs (by decide))
  refine lv_aload_n hx hb dL_law_1635 rfl (lv_at hl 3 rfl) ?_
  refine lv_iload_n hx hb dL_law_1636 rfl (lv_at hl 0 rfl) ?_
  refine lv_iconst (v := 5) hx hb dL_law_1637 (by decide) ?_
  refine lv_iadd hx hb dL_law_1638 ?_
  refine lv_topi (fun x_9 ex_9 => ?_)
  obtain rfl : x_9 = 5 := ex_9.trans (by decide +kernel)
  refine va_sld hx hb hX hbl hbA hS (show vp_in 5 6 from (by unfold vp_in; decide)) dL_law_1639 ?_
  refine lv_topi (fun x_10 ex_10 => ?_)
  obtain rfl : x_10 = xs 5 := ex_10.trans (congrArg xs (by decide))
  have hPc := hP.sub (ws' := [(xq, .inr (8, [.ref x_tape, .ref x_reader, .ref x_current, .ref x_images, .ref x_kept, .ref x_slots, .ref x_diary, .ref x_base, .ref x_trial, .ref x_plan, .ref x_orders, .ref x_unanswered, .int 0, .int 0, .int (-1)])), (x_slots, .inl (zk, 4, .inr (.inr (.inr (.inr (va_up (va_up (va_up (va_up (fun _ => none) 0 (some s0)) 1 (some s1)) 2 (some s2)) 3 (some s3))))))), (s2, .inr (5, [.ref y2, .int 0, .int 0, .int 0])), (s3, .inr (5, [.ref y3, .int 0, .int 0, .int 0]))]) [0, 1, 2, 3] rfl
  have hDc := hD.sub (ws' := [(xq, .inr (8, [.ref x_tape, .ref x_reader, .ref x_current, .ref x_images, .ref x_kept, .ref x_slots, .ref x_diary, .ref x_base, .ref x_trial, .ref x_plan, .ref x_orders, .ref x_unanswered, .int 0, .int 0, .int (-1)])), (x_slots, .inl (zk, 4, .inr (.inr (.inr (.inr (va_up (va_up (va_up (va_up (fun _ => none) 0 (some s0)) 1 (some s1)) 2 (some s2)) 3 (some s3))))))), (s2, .inr (5, [.ref y2, .int 0, .int 0, .int 0])), (s3, .inr (5, [.ref y3, .int 0, .int 0, .int 0]))]) [0, 1, 2, 3] (by decide) rfl
  have hKc := hK.sub (tys' := [(zk, .object RX5)]) [0] rfl
  have hFc := va_free (wc := [(xq, .inr (8, [.ref x_tape, .ref x_reader, .ref x_current, .ref x_images, .ref x_kept, .ref x_slots, .ref x_diary, .ref x_base, .ref x_trial, .ref x_plan, .ref x_orders, .ref x_unanswered, .int 0, .int 0, .int (-1)])), (x_slots, .inl (zk, 4, .inr (.inr (.inr (.inr (va_up (va_up (va_up (va_up (fun _ => none) 0 (some s0)) 1 (some s1)) 2 (some s2)) 3 (some s3))))))), (s2, .inr (5, [.ref y2, .int 0, .int 0, .int 0])), (s3, .inr (5, [.ref y3, .int 0, .int 0, .int 0]))]) hD hS hA [0, 1, 2, 3] rfl
  refine va_calli (va_runV (As := [.int 2, .int (xs 2), .int 3, .int (xs 4), .int (xs 5)]) (rest := []) ⟨hx, hb, hml, hown, hts⟩ (x_paste23 l dC dI H.size xq x_tape x_reader x_current x_images x_kept x_slots x_diary x_base x_trial x_plan x_orders x_unanswered s0 s1 s2 s3 0 0 y2 y3 zk ((xs 2)) ((xs 4)) ((xs 5)) ) (cwV 5 hts (goodV w_1358 w_1359 w_1360 w_2 w_1361) rfl rfl rfl hdV_X8_paste ⟨Nat.le_of_ble_eq_true rfl, Nat.le_of_ble_eq_true rfl⟩) ⟨fun a U g mk q => by obtain ⟨q0, q1, qP, qK, qD⟩ := q; exact ⟨q0, q1, qP, va_K.moved (u := U) (U := U.calling g mk a) (Vm.Alike.refl U.vm) qK, qD⟩, va_recv hKc hPc (ci := 8) (q0 := 0) rfl rfl, fun U hU hW => ⟨rfl, by rw [hU], by rw [hU]; exact hPc, va_K.moved hW.alike hKc, hDc.weaken (fun _ _ _ _ => trivial)⟩⟩ rfl rfl hl.1 rfl (lv_room (Nat.le_of_ble_eq_true rfl)) dL_law_1640 ⟨Nat.le_of_ble_eq_true rfl, Nat.le_of_ble_eq_true rfl⟩) hS (fun q _ h => hFc q h) hFc (fun r_11 u t H1 locs ht hvm hw hB hz1 hk1 hS => ?_)
  obtain ⟨hP, hD⟩ := va_join (wr := [(mq, .inr (9, [.int 0, .ref m_width, .ref m_many, .ref m_cells, .ref m_moved, .ref m_tape, .int 0, .int 0, .int 0, .int 0, .int 0, .long 0, .int 0, .int 0, .int 0, .int (-1), .ref m_lines, .ref m_has, .ref m_person, .ref m_letter, .int 0, .ref m_isKept, .ref m_more, .int 0, .ref m_came, .ref m_answered, .ref m_left, .ref m_leftOn, .ref m_isBurnt, .ref m_heard, .ref m_waitsOn, .ref m_idleOn, .ref m_row, .int 0, .int 0, .long 0, .ref m_key, .int 0, .int 0, .int 0, .int 0, .int 0, .int 0, .int 0, .int 0, .ref m_coming, .int 0, .ref m_tried, .ref m_bestOrder, .int 0, .int 0, .ref m_before, .int 0, .ref m_open])), (m_width, .inl (mk_width, 4, .inl (upd (upd (upd (upd (fun _ => 0) 0 (-1)) 1 (-1)) 2 (-1)) 3 (-1))))]) (w1 := []) hP hD [0, 1, 2, 3] [4, 5] rfl rfl (by decide) (by decide) hk1 hFc nilP nilD
  clear hPc hDc hKc hFc
  generalize H1 = H at hP hS ⊢
  have hP : va_P (dC, dI) vwCl [(mq, .inr (9, [.int 0, .ref m_width, .ref m_many, .ref m_cells, .ref m_moved, .ref m_tape, .int 0, .int 0, .int 0, .int 0, .int 0, .long 0, .int 0, .int 0, .int 0, .int (-1), .ref m_lines, .ref m_has, .ref m_person, .ref m_letter, .int 0, .ref m_isKept, .ref m_more, .int 0, .ref m_came, .ref m_answered, .ref m_left, .ref m_leftOn, .ref m_isBurnt, .ref m_heard, .ref m_waitsOn, .ref m_idleOn, .ref m_row, .int 0, .int 0, .long 0, .ref m_key, .int 0, .int 0, .int 0, .int 0, .int 0, .int 0, .int 0, .int 0, .ref m_coming, .int 0, .ref m_tried, .ref m_bestOrder, .int 0, .int 0, .ref m_before, .int 0, .ref m_open])), (m_width, .inl (mk_width, 4, .inl (upd (upd (upd (upd (fun _ => 0) 0 (-1)) 1 (-1)) 2 (-1)) 3 (-1))))] H := hP
  have hD : va_D (fun q : Nat => s.heap.size ≤ q) [(mq, .inr (9, [.int 0, .ref m_width, .ref m_many, .ref m_cells, .ref m_moved, .ref m_tape, .int 0, .int 0, .int 0, .int 0, .int 0, .long 0, .int 0, .int 0, .int 0, .int (-1), .ref m_lines, .ref m_has, .ref m_person, .ref m_letter, .int 0, .ref m_isKept, .ref m_more, .int 0, .ref m_came, .ref m_answered, .ref m_left, .ref m_leftOn, .ref m_isBurnt, .ref m_heard, .ref m_waitsOn, .ref m_idleOn, .ref m_row, .int 0, .int 0, .long 0, .ref m_key, .int 0, .int 0, .int 0, .int 0, .int 0, .int 0, .int 0, .int 0, .ref m_coming, .int 0, .ref m_tried, .ref m_bestOrder, .int 0, .int 0, .ref m_before, .int 0, .ref m_open])), (m_width, .inl (mk_width, 4, .inl (upd (upd (upd (upd (fun _ => 0) 0 (-1)) 1 (-1)) 2 (-1)) 3 (-1))))] := hD
  have hw : r_11 = (-6) := hw
  subst hw
  refine lv_aload_n hx hb dL_law_1643 rfl (lv_at hl 1 rfl) ?_
  refine lv_aload_n hx hb dL_law_1644 rfl (lv_at hl 3 rfl) ?_
  refine lv_iload_n hx hb dL_law_1645 rfl (lv_at hl 0 rfl) ?_
  refine lv_iconst (v := 1) hx hb dL_law_1646 (by decide) ?_
  refine lv_iadd hx hb dL_law_1647 ?_
  refine lv_topi (fun x_12 ex_12 => ?_)
  obtain rfl : x_12 = 1 := ex_12.trans (by decide +kernel)
  refine va_sld hx hb hX hbl hbA hS (show vp_in 1 6 from (by unfold vp_in; decide)) dL_law_1648 ?_
  refine lv_topi (fun x_13 ex_13 => ?_)
  obtain rfl : x_13 = 2 := ex_13.trans ((congrArg xs (by decide)).trans h1)
  refine lv_aload_n hx hb dL_law_1649 rfl (lv_at hl 3 rfl) ?_
  refine lv_iload_n hx hb dL_law_1650 rfl (lv_at hl 0 rfl) ?_
  refine lv_iconst (v := 2) hx hb dL_law_1651 (by decide) ?_
  refine lv_iadd hx hb dL_law_1652 ?_
  refine lv_topi (fun x_14 ex_14 => ?_)
  obtain rfl : x_14 = 2 := ex_14.trans (by decide +kernel)
  refine va_sld hx hb hX hbl hbA hS (show vp_in 2 6 from (by unfold vp_in; decide)) dL_law_1653 ?_
  refine lv_topi (fun x_15 ex_15 => ?_)
  obtain rfl : x_15 = xs 2 := ex_15.trans (congrArg xs (by decide))
  refine lv_aload_n hx hb dL_law_1654 rfl (lv_at hl 3 rfl) ?_
  refine lv_iload_n hx hb dL_law_1655 rfl (lv_at hl 0 rfl) ?_
  refine lv_iconst (v := 3) hx hb dL_law_1656 (by decide) ?_
  refine lv_iadd hx hb dL_law_1657 ?_
  refine lv_topi (fun x_16 ex_16 => ?_)
  obtain rfl : x_16 = 3 := ex_16.trans (by decide +kernel)
  refine va_sld hx hb hX hbl hbA hS (show vp_in 3 6 from (by unfold vp_in; decide)) dL_law_1658 ?_
  refine lv_topi (fun x_17 ex_17 => ?_)
  obtain rfl : x_17 = 3 := ex_17.trans ((congrArg xs (by decide)).trans h3)
  refine lv_aload_n hx hb dL_law_1659 rfl (lv_at hl 3 rfl) ?_
  refine lv_iload_n hx hb dL_law_1660 rfl (lv_at hl 0 rfl) ?_
  refine lv_iconst (v := 4) hx hb dL_law_1661 (by decide) ?_
  refine lv_iadd hx hb dL_law_1662 ?_
  refine lv_topi (fun x_18 ex_18 => ?_)
  obtain rfl : x_18 = 4 := ex_18.trans (by decide +kernel)
  refine va_sld hx hb hX hbl hbA hS (show vp_in 4 6 from (by unfold vp_in; decide)) dL_law_1663 ?_
  refine lv_topi (fun x_19 ex_19 => ?_)
  obtain rfl : x_19 = xs 4 := ex_19.trans (congrArg xs (by decide))
  refine lv_aload_n hx hb dL_law_1664 rfl (lv_at hl 3 rfl) ?_
  refine lv_iload_n hx hb dL_law_1665 rfl (lv_at hl 0 rfl) ?_
  refine lv_iconst (v := 5) hx hb dL_law_1666 (by decide) ?_
  refine lv_iadd hx hb dL_law_1667 ?_
  refine lv_topi (fun x_20 ex_20 => ?_)
  obtain rfl : x_20 = 5 := ex_20.trans (by decide +kernel)
  refine va_sld hx hb hX hbl hbA hS (show vp_in 5 6 from (by unfold vp_in; decide)) dL_law_1668 ?_
  refine lv_topi (fun x_21 ex_21 => ?_)
  obtain rfl : x_21 = xs 5 := ex_21.trans (congrArg xs (by decide))
  have hPc := hP.sub (ws' := [(mq, .inr (9, [.int 0, .ref m_width, .ref m_many, .ref m_cells, .ref m_moved, .ref m_tape, .int 0, .int 0, .int 0, .int 0, .int 0, .long 0, .int 0, .int 0, .int 0, .int (-1), .ref m_lines, .ref m_has, .ref m_person, .ref m_letter, .int 0, .ref m_isKept, .ref m_more, .int 0, .ref m_came, .ref m_answered, .ref m_left, .ref m_leftOn, .ref m_isBurnt, .ref m_heard, .ref m_waitsOn, .ref m_idleOn, .ref m_row, .int 0, .int 0, .long 0, .ref m_key, .int 0, .int 0, .int 0, .int 0, .int 0, .int 0, .int 0, .int 0, .ref m_coming, .int 0, .ref m_tried, .ref m_bestOrder, .int 0, .int 0, .ref m_before, .int 0, .ref m_open])), (m_width, .inl (mk_width, 4, .inl (upd (upd (upd (upd (fun _ => 0) 0 (-1)) 1 (-1)) 2 (-1)) 3 (-1))))]) [0, 1] rfl
  have hDc := hD.sub (ws' := [(mq, .inr (9, [.int 0, .ref m_width, .ref m_many, .ref m_cells, .ref m_moved, .ref m_tape, .int 0, .int 0, .int 0, .int 0, .int 0, .long 0, .int 0, .int 0, .int 0, .int (-1), .ref m_lines, .ref m_has, .ref m_person, .ref m_letter, .int 0, .ref m_isKept, .ref m_more, .int 0, .ref m_came, .ref m_answered, .ref m_left, .ref m_leftOn, .ref m_isBurnt, .ref m_heard, .ref m_waitsOn, .ref m_idleOn, .ref m_row, .int 0, .int 0, .long 0, .ref m_key, .int 0, .int 0, .int 0, .int 0, .int 0, .int 0, .int 0, .int 0, .ref m_coming, .int 0, .ref m_tried, .ref m_bestOrder, .int 0, .int 0, .ref m_before, .int 0, .ref m_open])), (m_width, .inl (mk_width, 4, .inl (upd (upd (upd (upd (fun _ => 0) 0 (-1)) 1 (-1)) 2 (-1)) 3 (-1))))]) [0, 1] (by decide) rfl
  have hKc := hK.sub (tys' := [(mk_width, .int)]) [1] rfl
  have hFc := va_free (wc := [(mq, .inr (9, [.int 0, .ref m_width, .ref m_many, .ref m_cells, .ref m_moved, .ref m_tape, .int 0, .int 0, .int 0, .int 0, .int 0, .long 0, .int 0, .int 0, .int 0, .int (-1), .ref m_lines, .ref m_has, .ref m_person, .ref m_letter, .int 0, .ref m_isKept, .ref m_more, .int 0, .ref m_came, .ref m_answered, .ref m_left, .ref m_leftOn, .ref m_isBurnt, .ref m_heard, .ref m_waitsOn, .ref m_idleOn, .ref m_row, .int 0, .int 0, .long 0, .ref m_key, .int 0, .int 0, .int 0, .int 0, .int 0, .int 0, .int 0, .int 0, .ref m_coming, .int 0, .ref m_tried, .ref m_bestOrder, .int 0, .int 0, .ref m_before, .int 0, .ref m_open])), (m_width, .inl (mk_width, 4, .inl (upd (upd (upd (upd (fun _ => 0) 0 (-1)) 1 (-1)) 2 (-1)) 3 (-1))))]) hD hS hA [0, 1] rfl
  refine va_calli (va_runV (As := [.int 2, .int (xs 2), .int 3, .int (xs 4), .int (xs 5)]) (rest := [.int (-6)]) ⟨hx, hb, hml, hown, hts⟩ (mc_paste23 l dC dI H.size mq m_width m_many m_cells m_moved m_tape m_lines m_has m_person m_letter m_isKept m_more m_came m_answered m_left m_leftOn m_isBurnt m_heard m_waitsOn m_idleOn m_row m_key m_coming m_tried m_bestOrder m_before m_open mk_width ((xs 2)) ((xs 4)) ((xs 5)) ) (cwV 5 hts (goodV w_1368 w_1369 w_1370 w_5 w_1371) rfl rfl rfl hdV_X9_paste ⟨Nat.le_of_ble_eq_true rfl, Nat.le_of_ble_eq_true rfl⟩) ⟨fun a U g mk q => by obtain ⟨q0, q1, qP, qK, qD⟩ := q; exact ⟨q0, q1, qP, va_K.moved (u := U) (U := U.calling g mk a) (Vm.Alike.refl U.vm) qK, qD⟩, va_recv hKc hPc (ci := 9) (q0 := 0) rfl rfl, fun U hU hW => ⟨rfl, by rw [hU], by rw [hU]; exact hPc, va_K.moved hW.alike hKc, hDc.weaken (fun _ _ _ _ => trivial)⟩⟩ rfl rfl hl.1 rfl (lv_room (Nat.le_of_ble_eq_true rfl)) dL_law_1669 ⟨Nat.le_of_ble_eq_true rfl, Nat.le_of_ble_eq_true rfl⟩) hS (fun q _ h => hFc q h) hFc (fun r_22 u t H1 locs ht hvm hw hB hz1 hk1 hS => ?_)
  obtain ⟨hP, hD⟩ := va_join (wr := []) (w1 := []) hP hD [0, 1] [] rfl rfl (by decide) (by decide) hk1 hFc nilP nilD
  clear hPc hDc hKc hFc
  generalize H1 = H at hP hS ⊢
  have hP : va_P (dC, dI) vwCl [] H := hP
  have hD : va_D (fun q : Nat => s.heap.size ≤ q) [] := hD
  have hw : r_22 = (-6) := hw
  subst hw
  refine lv_icmp_eq (tgt := 1677) hx hb dL_law_1672 (by decide) (fun c_23 => ?_) (fun c_23 => absurd (by decide) c_23)
  exact law_tail C0 hS (lv_sub hl [0, 3] rfl)

set_option maxHeartbeats 4000000 in
set_option maxRecDepth 100000 in
theorem law_write3 {p : Program} {l : Launch} {e : Env} {s : State} {m : MethodId} {below : List Frame} {meth : Method} {c : Code} {dC : Nat → ClassId} {dI : Nat → Nat → Nat} {b : Nat} {xs : Nat → Int32} {H : Heap} {locs : List Loc} {ls : Array Slot} {x_tape : Nat} {x_reader : Nat} {x_current : Nat} {x_images : Nat} {x_kept : Nat} {x_slots : Nat} {x_diary : Nat} {x_base : Nat} {x_trial : Nat} {x_plan : Nat} {x_orders : Nat} {x_unanswered : Nat} {s0 : Nat} {s1 : Nat} {s2 : Nat} {s3 : Nat} {y3 : Nat} {zk : ClassId} {m_width : Nat} {m_many : Nat} {m_cells : Nat} {m_moved : Nat} {m_tape : Nat} {m_lines : Nat} {m_has : Nat} {m_person : Nat} {m_letter : Nat} {m_isKept : Nat} {m_more : Nat} {m_came : Nat} {m_answered : Nat} {m_left : Nat} {m_leftOn : Nat} {m_isBurnt : Nat} {m_heard : Nat} {m_waitsOn : Nat} {m_idleOn : Nat} {m_row : Nat} {m_key : Nat} {m_coming : Nat} {m_tried : Nat} {m_bestOrder : Nat} {m_before : Nat} {m_open : Nat} {mk_width : ClassId} {xq : Nat} {mq : Nat} (C0 : lw_At p s m meth c b 6 xs) (h1 : xs 1 = 3) (hK : va_K (dC, dI) vwCl [(zk, .object RX5), (mk_width, .int)] s) (hP : va_P (dC, dI) vwCl [(xq, .inr (8, [.ref x_tape, .ref x_reader, .ref x_current, .ref x_images, .ref x_kept, .ref x_slots, .ref x_diary, .ref x_base, .ref x_trial, .ref x_plan, .ref x_orders, .ref x_unanswered, .int 0, .int 0, .int (-1)])), (x_slots, .inl (zk, 4, .inr (.inr (.inr (.inr (va_up (va_up (va_up (va_up (fun _ => none) 0 (some s0)) 1 (some s1)) 2 (some s2)) 3 (some s3))))))), (s3, .inr (5, [.ref y3, .int 0, .int 0, .int 0])), (mq, .inr (9, [.int 0, .ref m_width, .ref m_many, .ref m_cells, .ref m_moved, .ref m_tape, .int 0, .int 0, .int 0, .int 0, .int 0, .long 0, .int 0, .int 0, .int 0, .int (-1), .ref m_lines, .ref m_has, .ref m_person, .ref m_letter, .int 0, .ref m_isKept, .ref m_more, .int 0, .ref m_came, .ref m_answered, .ref m_left, .ref m_leftOn, .ref m_isBurnt, .ref m_heard, .ref m_waitsOn, .ref m_idleOn, .ref m_row, .int 0, .int 0, .long 0, .ref m_key, .int 0, .int 0, .int 0, .int 0, .int 0, .int 0, .int 0, .int 0, .ref m_coming, .int 0, .ref m_tried, .ref m_bestOrder, .int 0, .int 0, .ref m_before, .int 0, .ref m_open])), (m_width, .inl (mk_width, 4, .inl (upd (upd (upd (upd (fun _ => 0) 0 (-1)) 1 (-1)) 2 (-1)) 3 (-1))))] H) (hD : va_D (fun q : Nat => s.heap.size ≤ q) [(xq, .inr (8, [.ref x_tape, .ref x_reader, .ref x_current, .ref x_images, .ref x_kept, .ref x_slots, .ref x_diary, .ref x_base, .ref x_trial, .ref x_plan, .ref x_orders, .ref x_unanswered, .int 0, .int 0, .int (-1)])), (x_slots, .inl (zk, 4, .inr (.inr (.inr (.inr (va_up (va_up (va_up (va_up (fun _ => none) 0 (some s0)) 1 (some s1)) 2 (some s2)) 3 (some s3))))))), (s3, .inr (5, [.ref y3, .int 0, .int 0, .int 0])), (mq, .inr (9, [.int 0, .ref m_width, .ref m_many, .ref m_cells, .ref m_moved, .ref m_tape, .int 0, .int 0, .int 0, .int 0, .int 0, .long 0, .int 0, .int 0, .int 0, .int (-1), .ref m_lines, .ref m_has, .ref m_person, .ref m_letter, .int 0, .ref m_isKept, .ref m_more, .int 0, .ref m_came, .ref m_answered, .ref m_left, .ref m_leftOn, .ref m_isBurnt, .ref m_heard, .ref m_waitsOn, .ref m_idleOn, .ref m_row, .int 0, .int 0, .long 0, .ref m_key, .int 0, .int 0, .int 0, .int 0, .int 0, .int 0, .int 0, .int 0, .ref m_coming, .int 0, .ref m_tried, .ref m_bestOrder, .int 0, .int 0, .ref m_before, .int 0, .ref m_open])), (m_width, .inl (mk_width, 4, .inl (upd (upd (upd (upd (fun _ => 0) 0 (-1)) 1 (-1)) 2 (-1)) 3 (-1))))]) (hS : va_S (fun q : Nat => s.heap.size ≤ q) s.heap H locs) (hl : lv_has ls 4 [(3, .int 0), (2, .ref mq), (1, .ref xq), (0, .ref b)]) : W p l e room_1 s m #[Value.ref b] below meth c H locs 144 16687 (lw_Z below #[Value.ref b] s) (F0 m 1541 ls []) := by
  obtain ⟨hx, hb, hr, hml, hown, hts0, hX, hbl, hlocks, hgv⟩ := id C0
  have hts : ∀ w ∈ ALLW, w.before #[Value.ref b] s = true := fun w h => hts0 w (inT w h)
  have hA : ∀ q : Nat, s.heap.size ≤ q → (fun q : Nat => s.heap.size ≤ q) q := fun _ h => h
  have hbA : ¬ (fun q : Nat => s.heap.size ≤ q) b := Nat.not_le.mpr hbl
  refine lv_aload_n hx hb dL_law_1541 rfl (lv_at hl 2 rfl) ?_
  refine lv_aload_n hx hb dL_law_1542 rfl (lv_at hl 3 rfl) ?_
  refine lv_iload_n hx hb dL_law_1543 rfl (lv_at hl 0 rfl) ?_
  refine lv_iconst (v := 1) hx hb dL_law_1544 (by decide) ?_
  refine lv_iadd hx hb dL_law_1545 ?_
  refine lv_topi (fun x_1 ex_1 => ?_)
  obtain rfl : x_1 = 1 := ex_1.trans (by decide +kernel)
  refine va_sld hx hb hX hbl hbA hS (show vp_in 1 6 from (by unfold vp_in; decide)) dL_law_1546 ?_
  refine lv_topi (fun x_2 ex_2 => ?_)
  obtain rfl : x_2 = 3 := ex_2.trans ((congrArg xs (by decide)).trans h1)
  refine lv_aload_n hx hb dL_law_1547 rfl (lv_at hl 3 rfl) ?_
  refine lv_iload_n hx hb dL_law_1548 rfl (lv_at hl 0 rfl) ?_
  refine lv_iconst (v := 2) hx hb dL_law_1549 (by decide) ?_
  refine lv_iadd hx hb dL_law_1550 ?_
  refine lv_topi (fun x_3 ex_3 => ?_)
  obtain rfl : x_3 = 2 := ex_3.trans (by decide +kernel)
  refine va_sld hx hb hX hbl hbA hS (show vp_in 2 6 from (by unfold vp_in; decide)) dL_law_1551 ?_
  refine lv_topi (fun x_4 ex_4 => ?_)
  obtain rfl : x_4 = xs 2 := ex_4.trans (congrArg xs (by decide))
  refine lv_aload_n hx hb dL_law_1552 rfl (lv_at hl 3 rfl) ?_
  refine lv_iload_n hx hb dL_law_1553 rfl (lv_at hl 0 rfl) ?_
  refine lv_iconst (v := 3) hx hb dL_law_1554 (by decide) ?_
  refine lv_iadd hx hb dL_law_1555 ?_
  refine lv_topi (fun x_5 ex_5 => ?_)
  obtain rfl : x_5 = 3 := ex_5.trans (by decide +kernel)
  refine va_sld hx hb hX hbl hbA hS (show vp_in 3 6 from (by unfold vp_in; decide)) dL_law_1556 ?_
  refine lv_topi (fun x_6 ex_6 => ?_)
  obtain rfl : x_6 = xs 3 := ex_6.trans (congrArg xs (by decide))
  obtain ⟨y_7, ey_7⟩ : ∃ y : Int64, y.toInt = (xs 3).toInt ∧ (xs 3).toInt64 = y := ⟨_, Int32.toInt_toInt64 _, rfl⟩
  refine lv_i2l (v := y_7) hx hb dL_law_1557 ey_7.2 ?_
  have ey_71 := ey_7.1
  refine lv_bipush (v := 32) hx hb dL_law_1558 (by decide) ?_
  obtain ⟨y_8, ey_8⟩ : ∃ y : Int64, y_7 <<< ((32 : Int32).toInt64 &&& 63) = y := ⟨_, rfl⟩
  refine lv_lshl (v := y_8) hx hb dL_law_1560 ey_8 ?_
  refine lv_aload_n hx hb dL_law_1561 rfl (lv_at hl 3 rfl) ?_
  refine lv_iload_n hx hb dL_law_1562 rfl (lv_at hl 0 rfl) ?_
  refine lv_iconst (v := 4) hx hb dL_law_1563 (by decide) ?_
  refine lv_iadd hx hb dL_law_1564 ?_
  refine lv_topi (fun x_9 ex_9 => ?_)
  obtain rfl : x_9 = 4 := ex_9.trans (by decide +kernel)
  refine va_sld hx hb hX hbl hbA hS (show vp_in 4 6 from (by unfold vp_in; decide)) dL_law_1565 ?_
  refine lv_topi (fun x_10 ex_10 => ?_)
  obtain rfl : x_10 = xs 4 := ex_10.trans (congrArg xs (by decide))
  obtain ⟨y_11, ey_11⟩ : ∃ y : Int64, y.toInt = (xs 4).toInt ∧ (xs 4).toInt64 = y := ⟨_, Int32.toInt_toInt64 _, rfl⟩
  refine lv_i2l (v := y_11) hx hb dL_law_1566 ey_11.2 ?_
  have ey_111 := ey_11.1
  refine lv_ldc2 hx hb hown (hts _ w_6) dL_law_1567 ?_
  refine lv_land hx hb dL_law_1570 ?_
  refine lv_topl (fun x_12 ex_12 => ?_)
  refine lv_lor hx hb dL_law_1571 ?_
  refine lv_topl (fun x_13 ex_13 => ?_)
  have hPc := hP.sub (ws' := [(xq, .inr (8, [.ref x_tape, .ref x_reader, .ref x_current, .ref x_images, .ref x_kept, .ref x_slots, .ref x_diary, .ref x_base, .ref x_trial, .ref x_plan, .ref x_orders, .ref x_unanswered, .int 0, .int 0, .int (-1)])), (x_slots, .inl (zk, 4, .inr (.inr (.inr (.inr (va_up (va_up (va_up (va_up (fun _ => none) 0 (some s0)) 1 (some s1)) 2 (some s2)) 3 (some s3))))))), (s3, .inr (5, [.ref y3, .int 0, .int 0, .int 0]))]) [0, 1, 2] rfl
  have hDc := hD.sub (ws' := [(xq, .inr (8, [.ref x_tape, .ref x_reader, .ref x_current, .ref x_images, .ref x_kept, .ref x_slots, .ref x_diary, .ref x_base, .ref x_trial, .ref x_plan, .ref x_orders, .ref x_unanswered, .int 0, .int 0, .int (-1)])), (x_slots, .inl (zk, 4, .inr (.inr (.inr (.inr (va_up (va_up (va_up (va_up (fun _ => none) 0 (some s0)) 1 (some s1)) 2 (some s2)) 3 (some s3))))))), (s3, .inr (5, [.ref y3, .int 0, .int 0, .int 0]))]) [0, 1, 2] (by decide) rfl
  have hKc := hK.sub (tys' := [(zk, .object RX5)]) [0] rfl
  have hFc := va_free (wc := [(xq, .inr (8, [.ref x_tape, .ref x_reader, .ref x_current, .ref x_images, .ref x_kept, .ref x_slots, .ref x_diary, .ref x_base, .ref x_trial, .ref x_plan, .ref x_orders, .ref x_unanswered, .int 0, .int 0, .int (-1)])), (x_slots, .inl (zk, 4, .inr (.inr (.inr (.inr (va_up (va_up (va_up (va_up (fun _ => none) 0 (some s0)) 1 (some s1)) 2 (some s2)) 3 (some s3))))))), (s3, .inr (5, [.ref y3, .int 0, .int 0, .int 0]))]) hD hS hA [0, 1, 2] rfl
  refine va_calli (va_runV (As := [.int 3, .int (xs 2), .long x_13]) (rest := []) ⟨hx, hb, hml, hown, hts⟩ (x_write3 l dC dI H.size xq x_tape x_reader x_current x_images x_kept x_slots x_diary x_base x_trial x_plan x_orders x_unanswered s0 s1 s2 s3 0 0 0 y3 zk ((xs 2)) x_13 ) (cwV 3 hts (goodV w_1343 w_1344 w_1345 w_2 w_1346) rfl rfl rfl hdV_X8_write ⟨Nat.le_of_ble_eq_true rfl, Nat.le_of_ble_eq_true rfl⟩) ⟨fun a U g mk q => by obtain ⟨q0, q1, qP, qK, qD⟩ := q; exact ⟨q0, q1, qP, va_K.moved (u := U) (U := U.calling g mk a) (Vm.Alike.refl U.vm) qK, qD⟩, va_recv hKc hPc (ci := 8) (q0 := 0) rfl rfl, fun U hU hW => ⟨rfl, by rw [hU], by rw [hU]; exact hPc, va_K.moved hW.alike hKc, hDc.weaken (fun _ _ _ _ => trivial)⟩⟩ rfl rfl hl.1 rfl (lv_room (Nat.le_of_ble_eq_true rfl)) dL_law_1572 ⟨Nat.le_of_ble_eq_true rfl, Nat.le_of_ble_eq_true rfl⟩) hS (fun q _ h => hFc q h) hFc (fun r_14 u t H1 locs ht hvm hw hB hz1 hk1 hS => ?_)
  obtain ⟨hP, hD⟩ := va_join (wr := [(mq, .inr (9, [.int 0, .ref m_width, .ref m_many, .ref m_cells, .ref m_moved, .ref m_tape, .int 0, .int 0, .int 0, .int 0, .int 0, .long 0, .int 0, .int 0, .int 0, .int (-1), .ref m_lines, .ref m_has, .ref m_person, .ref m_letter, .int 0, .ref m_isKept, .ref m_more, .int 0, .ref m_came, .ref m_answered, .ref m_left, .ref m_leftOn, .ref m_isBurnt, .ref m_heard, .ref m_waitsOn, .ref m_idleOn, .ref m_row, .int 0, .int 0, .long 0, .ref m_key, .int 0, .int 0, .int 0, .int 0, .int 0, .int 0, .int 0, .int 0, .ref m_coming, .int 0, .ref m_tried, .ref m_bestOrder, .int 0, .int 0, .ref m_before, .int 0, .ref m_open])), (m_width, .inl (mk_width, 4, .inl (upd (upd (upd (upd (fun _ => 0) 0 (-1)) 1 (-1)) 2 (-1)) 3 (-1))))]) (w1 := []) hP hD [0, 1, 2] [3, 4] rfl rfl (by decide) (by decide) hk1 hFc nilP nilD
  clear hPc hDc hKc hFc
  generalize H1 = H at hP hS ⊢
  have hP : va_P (dC, dI) vwCl [(mq, .inr (9, [.int 0, .ref m_width, .ref m_many, .ref m_cells, .ref m_moved, .ref m_tape, .int 0, .int 0, .int 0, .int 0, .int 0, .long 0, .int 0, .int 0, .int 0, .int (-1), .ref m_lines, .ref m_has, .ref m_person, .ref m_letter, .int 0, .ref m_isKept, .ref m_more, .int 0, .ref m_came, .ref m_answered, .ref m_left, .ref m_leftOn, .ref m_isBurnt, .ref m_heard, .ref m_waitsOn, .ref m_idleOn, .ref m_row, .int 0, .int 0, .long 0, .ref m_key, .int 0, .int 0, .int 0, .int 0, .int 0, .int 0, .int 0, .int 0, .ref m_coming, .int 0, .ref m_tried, .ref m_bestOrder, .int 0, .int 0, .ref m_before, .int 0, .ref m_open])), (m_width, .inl (mk_width, 4, .inl (upd (upd (upd (upd (fun _ => 0) 0 (-1)) 1 (-1)) 2 (-1)) 3 (-1))))] H := hP
  have hD : va_D (fun q : Nat => s.heap.size ≤ q) [(mq, .inr (9, [.int 0, .ref m_width, .ref m_many, .ref m_cells, .ref m_moved, .ref m_tape, .int 0, .int 0, .int 0, .int 0, .int 0, .long 0, .int 0, .int 0, .int 0, .int (-1), .ref m_lines, .ref m_has, .ref m_person, .ref m_letter, .int 0, .ref m_isKept, .ref m_more, .int 0, .ref m_came, .ref m_answered, .ref m_left, .ref m_leftOn, .ref m_isBurnt, .ref m_heard, .ref m_waitsOn, .ref m_idleOn, .ref m_row, .int 0, .int 0, .long 0, .ref m_key, .int 0, .int 0, .int 0, .int 0, .int 0, .int 0, .int 0, .int 0, .ref m_coming, .int 0, .ref m_tried, .ref m_bestOrder, .int 0, .int 0, .ref m_before, .int 0, .ref m_open])), (m_width, .inl (mk_width, 4, .inl (upd (upd (upd (upd (fun _ => 0) 0 (-1)) 1 (-1)) 2 (-1)) 3 (-1))))] := hD
  have hw : r_14 = (-6) := hw
  subst hw
  refine lv_aload_n hx hb dL_law_1575 rfl (lv_at hl 1 rfl) ?_
  refine lv_aload_n hx hb dL_law_1576 rfl (lv_at hl 3 rfl) ?_
  refine lv_iload_n hx hb dL_law_1577 rfl (lv_at hl 0 rfl) ?_
  refine lv_iconst (v := 1) hx hb dL_law_1578 (by decide) ?_
  refine lv_iadd hx hb dL_law_1579 ?_
  refine lv_topi (fun x_15 ex_15 => ?_)
  obtain rfl : x_15 = 1 := ex_15.trans (by decide +kernel)
  refine va_sld hx hb hX hbl hbA hS (show vp_in 1 6 from (by unfold vp_in; decide)) dL_law_1580 ?_
  refine lv_topi (fun x_16 ex_16 => ?_)
  obtain rfl : x_16 = 3 := ex_16.trans ((congrArg xs (by decide)).trans h1)
  refine lv_aload_n hx hb dL_law_1581 rfl (lv_at hl 3 rfl) ?_
  refine lv_iload_n hx hb dL_law_1582 rfl (lv_at hl 0 rfl) ?_
  refine lv_iconst (v := 2) hx hb dL_law_1583 (by decide) ?_
  refine lv_iadd hx hb dL_law_1584 ?_
  refine lv_topi (fun x_17 ex_17 => ?_)
  obtain rfl : x_17 = 2 := ex_17.trans (by decide +kernel)
  refine va_sld hx hb hX hbl hbA hS (show vp_in 2 6 from (by unfold vp_in; decide)) dL_law_1585 ?_
  refine lv_topi (fun x_18 ex_18 => ?_)
  obtain rfl : x_18 = xs 2 := ex_18.trans (congrArg xs (by decide))
  refine lv_aload_n hx hb dL_law_1586 rfl (lv_at hl 3 rfl) ?_
  refine lv_iload_n hx hb dL_law_1587 rfl (lv_at hl 0 rfl) ?_
  refine lv_iconst (v := 3) hx hb dL_law_1588 (by decide) ?_
  refine lv_iadd hx hb dL_law_1589 ?_
  refine lv_topi (fun x_19 ex_19 => ?_)
  obtain rfl : x_19 = 3 := ex_19.trans (by decide +kernel)
  refine va_sld hx hb hX hbl hbA hS (show vp_in 3 6 from (by unfold vp_in; decide)) dL_law_1590 ?_
  refine lv_topi (fun x_20 ex_20 => ?_)
  obtain rfl : x_20 = xs 3 := ex_20.trans (congrArg xs (by decide))
  obtain ⟨y_21, ey_21⟩ : ∃ y : Int64, y.toInt = (xs 3).toInt ∧ (xs 3).toInt64 = y := ⟨_, Int32.toInt_toInt64 _, rfl⟩
  refine lv_i2l (v := y_21) hx hb dL_law_1591 ey_21.2 ?_
  have ey_211 := ey_21.1
  refine lv_bipush (v := 32) hx hb dL_law_1592 (by decide) ?_
  obtain ⟨y_22, ey_22⟩ : ∃ y : Int64, y_21 <<< ((32 : Int32).toInt64 &&& 63) = y := ⟨_, rfl⟩
  refine lv_lshl (v := y_22) hx hb dL_law_1594 ey_22 ?_
  refine lv_aload_n hx hb dL_law_1595 rfl (lv_at hl 3 rfl) ?_
  refine lv_iload_n hx hb dL_law_1596 rfl (lv_at hl 0 rfl) ?_
  refine lv_iconst (v := 4) hx hb dL_law_1597 (by decide) ?_
  refine lv_iadd hx hb dL_law_1598 ?_
  refine lv_topi (fun x_23 ex_23 => ?_)
  obtain rfl : x_23 = 4 := ex_23.trans (by decide +kernel)
  refine va_sld hx hb hX hbl hbA hS (show vp_in 4 6 from (by unfold vp_in; decide)) dL_law_1599 ?_
  refine lv_topi (fun x_24 ex_24 => ?_)
  obtain rfl : x_24 = xs 4 := ex_24.trans (congrArg xs (by decide))
  obtain ⟨y_25, ey_25⟩ : ∃ y : Int64, y.toInt = (xs 4).toInt ∧ (xs 4).toInt64 = y := ⟨_, Int32.toInt_toInt64 _, rfl⟩
  refine lv_i2l (v := y_25) hx hb dL_law_1600 ey_25.2 ?_
  have ey_251 := ey_25.1
  refine lv_ldc2 hx hb hown (hts _ w_6) dL_law_1601 ?_
  refine lv_land hx hb dL_law_1604 ?_
  refine lv_topl (fun x_26 ex_26 => ?_)
  refine lv_lor hx hb dL_law_1605 ?_
  refine lv_topl (fun x_27 ex_27 => ?_)
  have hPc := hP.sub (ws' := [(mq, .inr (9, [.int 0, .ref m_width, .ref m_many, .ref m_cells, .ref m_moved, .ref m_tape, .int 0, .int 0, .int 0, .int 0, .int 0, .long 0, .int 0, .int 0, .int 0, .int (-1), .ref m_lines, .ref m_has, .ref m_person, .ref m_letter, .int 0, .ref m_isKept, .ref m_more, .int 0, .ref m_came, .ref m_answered, .ref m_left, .ref m_leftOn, .ref m_isBurnt, .ref m_heard, .ref m_waitsOn, .ref m_idleOn, .ref m_row, .int 0, .int 0, .long 0, .ref m_key, .int 0, .int 0, .int 0, .int 0, .int 0, .int 0, .int 0, .int 0, .ref m_coming, .int 0, .ref m_tried, .ref m_bestOrder, .int 0, .int 0, .ref m_before, .int 0, .ref m_open])), (m_width, .inl (mk_width, 4, .inl (upd (upd (upd (upd (fun _ => 0) 0 (-1)) 1 (-1)) 2 (-1)) 3 (-1))))]) [0, 1] rfl
  have hDc := hD.sub (ws' := [(mq, .inr (9, [.int 0, .ref m_width, .ref m_many, .ref m_cells, .ref m_moved, .ref m_tape, .int 0, .int 0, .int 0, .int 0, .int 0, .long 0, .int 0, .int 0, .int 0, .int (-1), .ref m_lines, .ref m_has, .ref m_person, .ref m_letter, .int 0, .ref m_isKept, .ref m_more, .int 0, .ref m_came, .ref m_answered, .ref m_left, .ref m_leftOn, .ref m_isBurnt, .ref m_heard, .ref m_waitsOn, .ref m_idleOn, .ref m_row, .int 0, .int 0, .long 0, .ref m_key, .int 0, .int 0, .int 0, .int 0, .int 0, .int 0, .int 0, .int 0, .ref m_coming, .int 0, .ref m_tried, .ref m_bestOrder, .int 0, .int 0, .ref m_before, .int 0, .ref m_open])), (m_width, .inl (mk_width, 4, .inl (upd (upd (upd (upd (fun _ => 0) 0 (-1)) 1 (-1)) 2 (-1)) 3 (-1))))]) [0, 1] (by decide) rfl
  have hKc := hK.sub (tys' := [(mk_width, .int)]) [1] rfl
  have hFc := va_free (wc := [(mq, .inr (9, [.int 0, .ref m_width, .ref m_many, .ref m_cells, .ref m_moved, .ref m_tape, .int 0, .int 0, .int 0, .int 0, .int 0, .long 0, .int 0, .int 0, .int 0, .int (-1), .ref m_lines, .ref m_has, .ref m_person, .ref m_letter, .int 0, .ref m_isKept, .ref m_more, .int 0, .ref m_came, .ref m_answered, .ref m_left, .ref m_leftOn, .ref m_isBurnt, .ref m_heard, .ref m_waitsOn, .ref m_idleOn, .ref m_row, .int 0, .int 0, .long 0, .ref m_key, .int 0, .int 0, .int 0, .int 0, .int 0, .int 0, .int 0, .int 0, .ref m_coming, .int 0, .ref m_tried, .ref m_bestOrder, .int 0, .int 0, .ref m_before, .int 0, .ref m_open])), (m_width, .inl (mk_width, 4, .inl (upd (upd (upd (upd (fun _ => 0) 0 (-1)) 1 (-1)) 2 (-1)) 3 (-1))))]) hD hS hA [0, 1] rfl
  refine va_calli (va_runV (As := [.int 3, .int (xs 2), .long x_27]) (rest := [.int (-6)]) ⟨hx, hb, hml, hown, hts⟩ (mc_write3 l dC dI H.size mq m_width m_many m_cells m_moved m_tape m_lines m_has m_person m_letter m_isKept m_more m_came m_answered m_left m_leftOn m_isBurnt m_heard m_waitsOn m_idleOn m_row m_key m_coming m_tried m_bestOrder m_before m_open mk_width ((xs 2)) x_27 ) (cwV 3 hts (goodV w_1351 w_1352 w_1353 w_5 w_1354) rfl rfl rfl hdV_X9_write ⟨Nat.le_of_ble_eq_true rfl, Nat.le_of_ble_eq_true rfl⟩) ⟨fun a U g mk q => by obtain ⟨q0, q1, qP, qK, qD⟩ := q; exact ⟨q0, q1, qP, va_K.moved (u := U) (U := U.calling g mk a) (Vm.Alike.refl U.vm) qK, qD⟩, va_recv hKc hPc (ci := 9) (q0 := 0) rfl rfl, fun U hU hW => ⟨rfl, by rw [hU], by rw [hU]; exact hPc, va_K.moved hW.alike hKc, hDc.weaken (fun _ _ _ _ => trivial)⟩⟩ rfl rfl hl.1 rfl (lv_room (Nat.le_of_ble_eq_true rfl)) dL_law_1606 ⟨Nat.le_of_ble_eq_true rfl, Nat.le_of_ble_eq_true rfl⟩) hS (fun q _ h => hFc q h) hFc (fun r_28 u t H1 locs ht hvm hw hB hz1 hk1 hS => ?_)
  obtain ⟨hP, hD⟩ := va_join (wr := []) (w1 := []) hP hD [0, 1] [] rfl rfl (by decide) (by decide) hk1 hFc nilP nilD
  clear hPc hDc hKc hFc
  generalize H1 = H at hP hS ⊢
  have hP : va_P (dC, dI) vwCl [] H := hP
  have hD : va_D (fun q : Nat => s.heap.size ≤ q) [] := hD
  have hw : r_28 = (-6) := hw
  subst hw
  refine lv_icmp_eq (tgt := 1677) hx hb dL_law_1609 (by decide) (fun c_29 => ?_) (fun c_29 => absurd (by decide) c_29)
  exact law_tail C0 hS (lv_sub hl [0, 3] rfl)

set_option maxHeartbeats 4000000 in
set_option maxRecDepth 100000 in
theorem law_pasteO3 {p : Program} {l : Launch} {e : Env} {s : State} {m : MethodId} {below : List Frame} {meth : Method} {c : Code} {dC : Nat → ClassId} {dI : Nat → Nat → Nat} {b : Nat} {xs : Nat → Int32} {H : Heap} {locs : List Loc} {ls : Array Slot} {x_tape : Nat} {x_reader : Nat} {x_current : Nat} {x_images : Nat} {x_kept : Nat} {x_slots : Nat} {x_diary : Nat} {x_base : Nat} {x_trial : Nat} {x_plan : Nat} {x_orders : Nat} {x_unanswered : Nat} {m_width : Nat} {m_many : Nat} {m_cells : Nat} {m_moved : Nat} {m_tape : Nat} {m_lines : Nat} {m_has : Nat} {m_person : Nat} {m_letter : Nat} {m_isKept : Nat} {m_more : Nat} {m_came : Nat} {m_answered : Nat} {m_left : Nat} {m_leftOn : Nat} {m_isBurnt : Nat} {m_heard : Nat} {m_waitsOn : Nat} {m_idleOn : Nat} {m_row : Nat} {m_key : Nat} {m_coming : Nat} {m_tried : Nat} {m_bestOrder : Nat} {m_before : Nat} {m_open : Nat} {xq : Nat} {mq : Nat} (C0 : lw_At p s m meth c b 6 xs) (h1 : xs 1 = 3) (h3 : (xs 3).toInt < 0 ∨ 4 ≤ (xs 3).toInt) (hK : va_K (dC, dI) vwCl [] s) (hP : va_P (dC, dI) vwCl [(xq, .inr (8, [.ref x_tape, .ref x_reader, .ref x_current, .ref x_images, .ref x_kept, .ref x_slots, .ref x_diary, .ref x_base, .ref x_trial, .ref x_plan, .ref x_orders, .ref x_unanswered, .int 0, .int 0, .int (-1)])), (mq, .inr (9, [.int 0, .ref m_width, .ref m_many, .ref m_cells, .ref m_moved, .ref m_tape, .int 0, .int 0, .int 0, .int 0, .int 0, .long 0, .int 0, .int 0, .int 0, .int (-1), .ref m_lines, .ref m_has, .ref m_person, .ref m_letter, .int 0, .ref m_isKept, .ref m_more, .int 0, .ref m_came, .ref m_answered, .ref m_left, .ref m_leftOn, .ref m_isBurnt, .ref m_heard, .ref m_waitsOn, .ref m_idleOn, .ref m_row, .int 0, .int 0, .long 0, .ref m_key, .int 0, .int 0, .int 0, .int 0, .int 0, .int 0, .int 0, .int 0, .ref m_coming, .int 0, .ref m_tried, .ref m_bestOrder, .int 0, .int 0, .ref m_before, .int 0, .ref m_open]))] H) (hD : va_D (fun q : Nat => s.heap.size ≤ q) [(xq, .inr (8, [.ref x_tape, .ref x_reader, .ref x_current, .ref x_images, .ref x_kept, .ref x_slots, .ref x_diary, .ref x_base, .ref x_trial, .ref x_plan, .ref x_orders, .ref x_unanswered, .int 0, .int 0, .int (-1)])), (mq, .inr (9, [.int 0, .ref m_width, .ref m_many, .ref m_cells, .ref m_moved, .ref m_tape, .int 0, .int 0, .int 0, .int 0, .int 0, .long 0, .int 0, .int 0, .int 0, .int (-1), .ref m_lines, .ref m_has, .ref m_person, .ref m_letter, .int 0, .ref m_isKept, .ref m_more, .int 0, .ref m_came, .ref m_answered, .ref m_left, .ref m_leftOn, .ref m_isBurnt, .ref m_heard, .ref m_waitsOn, .ref m_idleOn, .ref m_row, .int 0, .int 0, .long 0, .ref m_key, .int 0, .int 0, .int 0, .int 0, .int 0, .int 0, .int 0, .int 0, .ref m_coming, .int 0, .ref m_tried, .ref m_bestOrder, .int 0, .int 0, .ref m_before, .int 0, .ref m_open]))]) (hS : va_S (fun q : Nat => s.heap.size ≤ q) s.heap H locs) (hl : lv_has ls 4 [(3, .int 0), (2, .ref mq), (1, .ref xq), (0, .ref b)]) : W p l e room_1 s m #[Value.ref b] below meth c H locs 144 16687 (lw_Z below #[Value.ref b] s) (F0 m 1614 ls []) := by
  obtain ⟨hx, hb, hr, hml, hown, hts0, hX, hbl, hlocks, hgv⟩ := id C0
  have hts : ∀ w ∈ ALLW, w.before #[Value.ref b] s = true := fun w h => hts0 w (inT w h)
  have hA : ∀ q : Nat, s.heap.size ≤ q → (fun q : Nat => s.heap.size ≤ q) q := fun _ h => h
  have hbA : ¬ (fun q : Nat => s.heap.size ≤ q) b := Nat.not_le.mpr hbl
  refine lv_aload_n hx hb dL_law_1614 rfl (lv_at hl 2 rfl) ?_
  refine lv_aload_n hx hb dL_law_1615 rfl (lv_at hl 3 rfl) ?_
  refine lv_iload_n hx hb dL_law_1616 rfl (lv_at hl 0 rfl) ?_
  refine lv_iconst (v := 1) hx hb dL_law_1617 (by decide) ?_
  refine lv_iadd hx hb dL_law_1618 ?_
  refine lv_topi (fun x_1 ex_1 => ?_)
  obtain rfl : x_1 = 1 := ex_1.trans (by decide +kernel)
  refine va_sld hx hb hX hbl hbA hS (show vp_in 1 6 from (by unfold vp_in; decide)) dL_law_1619 ?_
  refine lv_topi (fun x_2 ex_2 => ?_)
  obtain rfl : x_2 = 3 := ex_2.trans ((congrArg xs (by decide)).trans h1)
  refine lv_aload_n hx hb dL_law_1620 rfl (lv_at hl 3 rfl) ?_
  refine lv_iload_n hx hb dL_law_1621 rfl (lv_at hl 0 rfl) ?_
  refine lv_iconst (v := 2) hx hb dL_law_1622 (by decide) ?_
  refine lv_iadd hx hb dL_law_1623 ?_
  refine lv_topi (fun x_3 ex_3 => ?_)
  obtain rfl : x_3 = 2 := ex_3.trans (by decide +kernel)
  refine va_sld hx hb hX hbl hbA hS (show vp_in 2 6 from (by unfold vp_in; decide)) dL_law_1624 ?_
  refine lv_topi (fun x_4 ex_4 => ?_)
  obtain rfl : x_4 = xs 2 := ex_4.trans (congrArg xs (by decide))
  refine lv_aload_n hx hb dL_law_1625 rfl (lv_at hl 3 rfl) ?_
  refine lv_iload_n hx hb dL_law_1626 rfl (lv_at hl 0 rfl) ?_
  refine lv_iconst (v := 3) hx hb dL_law_1627 (by decide) ?_
  refine lv_iadd hx hb dL_law_1628 ?_
  refine lv_topi (fun x_5 ex_5 => ?_)
  obtain rfl : x_5 = 3 := ex_5.trans (by decide +kernel)
  refine va_sld hx hb hX hbl hbA hS (show vp_in 3 6 from (by unfold vp_in; decide)) dL_law_1629 ?_
  refine lv_topi (fun x_6 ex_6 => ?_)
  obtain rfl : x_6 = xs 3 := ex_6.trans (congrArg xs (by decide))
  refine lv_aload_n hx hb dL_law_1630 rfl (lv_at hl 3 rfl) ?_
  refine lv_iload_n hx hb dL_law_1631 rfl (lv_at hl 0 rfl) ?_
  refine lv_iconst (v := 4) hx hb dL_law_1632 (by decide) ?_
  refine lv_iadd hx hb dL_law_1633 ?_
  refine lv_topi (fun x_7 ex_7 => ?_)
  obtain rfl : x_7 = 4 := ex_7.trans (by decide +kernel)
  refine va_sld hx hb hX hbl hbA hS (show vp_in 4 6 from (by unfold vp_in; decide)) dL_law_1634 ?_
  refine lv_topi (fun x_8 ex_8 => ?_)
  obtain rfl : x_8 = xs 4 := ex_8.trans (congrArg xs (by decide))
  refine lv_aload_n hx hb dL_law_1635 rfl (lv_at hl 3 rfl) ?_
  refine lv_iload_n hx hb dL_law_1636 rfl (lv_at hl 0 rfl) ?_
  refine lv_iconst (v := 5) hx hb dL_law_1637 (by decide) ?_
  refine lv_iadd hx hb dL_law_1638 ?_
  refine lv_topi (fun x_9 ex_9 => ?_)
  obtain rfl : x_9 = 5 := ex_9.trans (by decide +kernel)
  refine va_sld hx hb hX hbl hbA hS (show vp_in 5 6 from (by unfold vp_in; decide)) dL_law_1639 ?_
  refine lv_topi (fun x_10 ex_10 => ?_)
  obtain rfl : x_10 = xs 5 := ex_10.trans (congrArg xs (by decide))
  have hPc := hP.sub (ws' := [(xq, .inr (8, [.ref x_tape, .ref x_reader, .ref x_current, .ref x_images, .ref x_kept, .ref x_slots, .ref x_diary, .ref x_base, .ref x_trial, .ref x_plan, .ref x_orders, .ref x_unanswered, .int 0, .int 0, .int (-1)]))]) [0] rfl
  have hDc := hD.sub (ws' := [(xq, .inr (8, [.ref x_tape, .ref x_reader, .ref x_current, .ref x_images, .ref x_kept, .ref x_slots, .ref x_diary, .ref x_base, .ref x_trial, .ref x_plan, .ref x_orders, .ref x_unanswered, .int 0, .int 0, .int (-1)]))]) [0] (by decide) rfl
  have hKc := hK.sub (tys' := []) [] rfl
  have hFc := va_free (wc := [(xq, .inr (8, [.ref x_tape, .ref x_reader, .ref x_current, .ref x_images, .ref x_kept, .ref x_slots, .ref x_diary, .ref x_base, .ref x_trial, .ref x_plan, .ref x_orders, .ref x_unanswered, .int 0, .int 0, .int (-1)]))]) hD hS hA [0] rfl
  have z_11 : (3 : Int32).toInt = 3 := by decide
  refine va_calli (va_runV (As := [.int 3, .int (xs 2), .int (xs 3), .int (xs 4), .int (xs 5)]) (rest := []) ⟨hx, hb, hml, hown, hts⟩ (x_pasteO3 l dC dI H.size xq x_tape x_reader x_current x_images x_kept x_slots x_diary x_base x_trial x_plan x_orders x_unanswered ((xs 2)) ((xs 3)) ((xs 4)) ((xs 5)) h3) (cwV 5 hts (goodV w_1358 w_1359 w_1360 w_2 w_1361) rfl rfl rfl hdV_X8_paste ⟨Nat.le_of_ble_eq_true rfl, Nat.le_of_ble_eq_true rfl⟩) ⟨fun a U g mk q => by obtain ⟨q0, q1, qP, qK, qD⟩ := q; exact ⟨q0, q1, qP, va_K.moved (u := U) (U := U.calling g mk a) (Vm.Alike.refl U.vm) qK, qD⟩, va_recv hKc hPc (ci := 8) (q0 := 0) rfl rfl, fun U hU hW => ⟨rfl, by rw [hU], by rw [hU]; exact hPc, va_K.moved hW.alike hKc, hDc.weaken (fun _ _ _ _ => trivial)⟩⟩ rfl rfl hl.1 rfl (lv_room (Nat.le_of_ble_eq_true rfl)) dL_law_1640 ⟨Nat.le_of_ble_eq_true rfl, Nat.le_of_ble_eq_true rfl⟩) hS (fun q _ h => hFc q h) hFc (fun r_12 u t H1 locs ht hvm hw hB hz1 hk1 hS => ?_)
  obtain ⟨hP, hD⟩ := va_join (wr := [(mq, .inr (9, [.int 0, .ref m_width, .ref m_many, .ref m_cells, .ref m_moved, .ref m_tape, .int 0, .int 0, .int 0, .int 0, .int 0, .long 0, .int 0, .int 0, .int 0, .int (-1), .ref m_lines, .ref m_has, .ref m_person, .ref m_letter, .int 0, .ref m_isKept, .ref m_more, .int 0, .ref m_came, .ref m_answered, .ref m_left, .ref m_leftOn, .ref m_isBurnt, .ref m_heard, .ref m_waitsOn, .ref m_idleOn, .ref m_row, .int 0, .int 0, .long 0, .ref m_key, .int 0, .int 0, .int 0, .int 0, .int 0, .int 0, .int 0, .int 0, .ref m_coming, .int 0, .ref m_tried, .ref m_bestOrder, .int 0, .int 0, .ref m_before, .int 0, .ref m_open]))]) (w1 := []) hP hD [0] [1] rfl rfl (by decide) (by decide) hk1 hFc nilP nilD
  clear hPc hDc hKc hFc
  generalize H1 = H at hP hS ⊢
  have hP : va_P (dC, dI) vwCl [(mq, .inr (9, [.int 0, .ref m_width, .ref m_many, .ref m_cells, .ref m_moved, .ref m_tape, .int 0, .int 0, .int 0, .int 0, .int 0, .long 0, .int 0, .int 0, .int 0, .int (-1), .ref m_lines, .ref m_has, .ref m_person, .ref m_letter, .int 0, .ref m_isKept, .ref m_more, .int 0, .ref m_came, .ref m_answered, .ref m_left, .ref m_leftOn, .ref m_isBurnt, .ref m_heard, .ref m_waitsOn, .ref m_idleOn, .ref m_row, .int 0, .int 0, .long 0, .ref m_key, .int 0, .int 0, .int 0, .int 0, .int 0, .int 0, .int 0, .int 0, .ref m_coming, .int 0, .ref m_tried, .ref m_bestOrder, .int 0, .int 0, .ref m_before, .int 0, .ref m_open]))] H := hP
  have hD : va_D (fun q : Nat => s.heap.size ≤ q) [(mq, .inr (9, [.int 0, .ref m_width, .ref m_many, .ref m_cells, .ref m_moved, .ref m_tape, .int 0, .int 0, .int 0, .int 0, .int 0, .long 0, .int 0, .int 0, .int 0, .int (-1), .ref m_lines, .ref m_has, .ref m_person, .ref m_letter, .int 0, .ref m_isKept, .ref m_more, .int 0, .ref m_came, .ref m_answered, .ref m_left, .ref m_leftOn, .ref m_isBurnt, .ref m_heard, .ref m_waitsOn, .ref m_idleOn, .ref m_row, .int 0, .int 0, .long 0, .ref m_key, .int 0, .int 0, .int 0, .int 0, .int 0, .int 0, .int 0, .int 0, .ref m_coming, .int 0, .ref m_tried, .ref m_bestOrder, .int 0, .int 0, .ref m_before, .int 0, .ref m_open]))] := hD
  have hw : r_12 = (-2) := hw
  subst hw
  refine lv_aload_n hx hb dL_law_1643 rfl (lv_at hl 1 rfl) ?_
  refine lv_aload_n hx hb dL_law_1644 rfl (lv_at hl 3 rfl) ?_
  refine lv_iload_n hx hb dL_law_1645 rfl (lv_at hl 0 rfl) ?_
  refine lv_iconst (v := 1) hx hb dL_law_1646 (by decide) ?_
  refine lv_iadd hx hb dL_law_1647 ?_
  refine lv_topi (fun x_13 ex_13 => ?_)
  obtain rfl : x_13 = 1 := ex_13.trans (by decide +kernel)
  refine va_sld hx hb hX hbl hbA hS (show vp_in 1 6 from (by unfold vp_in; decide)) dL_law_1648 ?_
  refine lv_topi (fun x_14 ex_14 => ?_)
  obtain rfl : x_14 = 3 := ex_14.trans ((congrArg xs (by decide)).trans h1)
  refine lv_aload_n hx hb dL_law_1649 rfl (lv_at hl 3 rfl) ?_
  refine lv_iload_n hx hb dL_law_1650 rfl (lv_at hl 0 rfl) ?_
  refine lv_iconst (v := 2) hx hb dL_law_1651 (by decide) ?_
  refine lv_iadd hx hb dL_law_1652 ?_
  refine lv_topi (fun x_15 ex_15 => ?_)
  obtain rfl : x_15 = 2 := ex_15.trans (by decide +kernel)
  refine va_sld hx hb hX hbl hbA hS (show vp_in 2 6 from (by unfold vp_in; decide)) dL_law_1653 ?_
  refine lv_topi (fun x_16 ex_16 => ?_)
  obtain rfl : x_16 = xs 2 := ex_16.trans (congrArg xs (by decide))
  refine lv_aload_n hx hb dL_law_1654 rfl (lv_at hl 3 rfl) ?_
  refine lv_iload_n hx hb dL_law_1655 rfl (lv_at hl 0 rfl) ?_
  refine lv_iconst (v := 3) hx hb dL_law_1656 (by decide) ?_
  refine lv_iadd hx hb dL_law_1657 ?_
  refine lv_topi (fun x_17 ex_17 => ?_)
  obtain rfl : x_17 = 3 := ex_17.trans (by decide +kernel)
  refine va_sld hx hb hX hbl hbA hS (show vp_in 3 6 from (by unfold vp_in; decide)) dL_law_1658 ?_
  refine lv_topi (fun x_18 ex_18 => ?_)
  obtain rfl : x_18 = xs 3 := ex_18.trans (congrArg xs (by decide))
  refine lv_aload_n hx hb dL_law_1659 rfl (lv_at hl 3 rfl) ?_
  refine lv_iload_n hx hb dL_law_1660 rfl (lv_at hl 0 rfl) ?_
  refine lv_iconst (v := 4) hx hb dL_law_1661 (by decide) ?_
  refine lv_iadd hx hb dL_law_1662 ?_
  refine lv_topi (fun x_19 ex_19 => ?_)
  obtain rfl : x_19 = 4 := ex_19.trans (by decide +kernel)
  refine va_sld hx hb hX hbl hbA hS (show vp_in 4 6 from (by unfold vp_in; decide)) dL_law_1663 ?_
  refine lv_topi (fun x_20 ex_20 => ?_)
  obtain rfl : x_20 = xs 4 := ex_20.trans (congrArg xs (by decide))
  refine lv_aload_n hx hb dL_law_1664 rfl (lv_at hl 3 rfl) ?_
  refine lv_iload_n hx hb dL_law_1665 rfl (lv_at hl 0 rfl) ?_
  refine lv_iconst (v := 5) hx hb dL_law_1666 (by decide) ?_
  refine lv_iadd hx hb dL_law_1667 ?_
  refine lv_topi (fun x_21 ex_21 => ?_)
  obtain rfl : x_21 = 5 := ex_21.trans (by decide +kernel)
  refine va_sld hx hb hX hbl hbA hS (show vp_in 5 6 from (by unfold vp_in; decide)) dL_law_1668 ?_
  refine lv_topi (fun x_22 ex_22 => ?_)
  obtain rfl : x_22 = xs 5 := ex_22.trans (congrArg xs (by decide))
  have hPc := hP.sub (ws' := [(mq, .inr (9, [.int 0, .ref m_width, .ref m_many, .ref m_cells, .ref m_moved, .ref m_tape, .int 0, .int 0, .int 0, .int 0, .int 0, .long 0, .int 0, .int 0, .int 0, .int (-1), .ref m_lines, .ref m_has, .ref m_person, .ref m_letter, .int 0, .ref m_isKept, .ref m_more, .int 0, .ref m_came, .ref m_answered, .ref m_left, .ref m_leftOn, .ref m_isBurnt, .ref m_heard, .ref m_waitsOn, .ref m_idleOn, .ref m_row, .int 0, .int 0, .long 0, .ref m_key, .int 0, .int 0, .int 0, .int 0, .int 0, .int 0, .int 0, .int 0, .ref m_coming, .int 0, .ref m_tried, .ref m_bestOrder, .int 0, .int 0, .ref m_before, .int 0, .ref m_open]))]) [0] rfl
  have hDc := hD.sub (ws' := [(mq, .inr (9, [.int 0, .ref m_width, .ref m_many, .ref m_cells, .ref m_moved, .ref m_tape, .int 0, .int 0, .int 0, .int 0, .int 0, .long 0, .int 0, .int 0, .int 0, .int (-1), .ref m_lines, .ref m_has, .ref m_person, .ref m_letter, .int 0, .ref m_isKept, .ref m_more, .int 0, .ref m_came, .ref m_answered, .ref m_left, .ref m_leftOn, .ref m_isBurnt, .ref m_heard, .ref m_waitsOn, .ref m_idleOn, .ref m_row, .int 0, .int 0, .long 0, .ref m_key, .int 0, .int 0, .int 0, .int 0, .int 0, .int 0, .int 0, .int 0, .ref m_coming, .int 0, .ref m_tried, .ref m_bestOrder, .int 0, .int 0, .ref m_before, .int 0, .ref m_open]))]) [0] (by decide) rfl
  have hKc := hK.sub (tys' := []) [] rfl
  have hFc := va_free (wc := [(mq, .inr (9, [.int 0, .ref m_width, .ref m_many, .ref m_cells, .ref m_moved, .ref m_tape, .int 0, .int 0, .int 0, .int 0, .int 0, .long 0, .int 0, .int 0, .int 0, .int (-1), .ref m_lines, .ref m_has, .ref m_person, .ref m_letter, .int 0, .ref m_isKept, .ref m_more, .int 0, .ref m_came, .ref m_answered, .ref m_left, .ref m_leftOn, .ref m_isBurnt, .ref m_heard, .ref m_waitsOn, .ref m_idleOn, .ref m_row, .int 0, .int 0, .long 0, .ref m_key, .int 0, .int 0, .int 0, .int 0, .int 0, .int 0, .int 0, .int 0, .ref m_coming, .int 0, .ref m_tried, .ref m_bestOrder, .int 0, .int 0, .ref m_before, .int 0, .ref m_open]))]) hD hS hA [0] rfl
  have z_23 : (3 : Int32).toInt = 3 := by decide
  refine va_calli (va_runV (As := [.int 3, .int (xs 2), .int (xs 3), .int (xs 4), .int (xs 5)]) (rest := [.int (-2)]) ⟨hx, hb, hml, hown, hts⟩ (mc_pasteO3 l dC dI H.size mq m_width m_many m_cells m_moved m_tape m_lines m_has m_person m_letter m_isKept m_more m_came m_answered m_left m_leftOn m_isBurnt m_heard m_waitsOn m_idleOn m_row m_key m_coming m_tried m_bestOrder m_before m_open ((xs 2)) ((xs 3)) ((xs 4)) ((xs 5)) h3) (cwV 5 hts (goodV w_1368 w_1369 w_1370 w_5 w_1371) rfl rfl rfl hdV_X9_paste ⟨Nat.le_of_ble_eq_true rfl, Nat.le_of_ble_eq_true rfl⟩) ⟨fun a U g mk q => by obtain ⟨q0, q1, qP, qK, qD⟩ := q; exact ⟨q0, q1, qP, va_K.moved (u := U) (U := U.calling g mk a) (Vm.Alike.refl U.vm) qK, qD⟩, va_recv hKc hPc (ci := 9) (q0 := 0) rfl rfl, fun U hU hW => ⟨rfl, by rw [hU], by rw [hU]; exact hPc, va_K.moved hW.alike hKc, hDc.weaken (fun _ _ _ _ => trivial)⟩⟩ rfl rfl hl.1 rfl (lv_room (Nat.le_of_ble_eq_true rfl)) dL_law_1669 ⟨Nat.le_of_ble_eq_true rfl, Nat.le_of_ble_eq_true rfl⟩) hS (fun q _ h => hFc q h) hFc (fun r_24 u t H1 locs ht hvm hw hB hz1 hk1 hS => ?_)
  obtain ⟨hP, hD⟩ := va_join (wr := []) (w1 := []) hP hD [0] [] rfl rfl (by decide) (by decide) hk1 hFc nilP nilD
  clear hPc hDc hKc hFc
  generalize H1 = H at hP hS ⊢
  have hP : va_P (dC, dI) vwCl [] H := hP
  have hD : va_D (fun q : Nat => s.heap.size ≤ q) [] := hD
  have hw : r_24 = (-2) := hw
  subst hw
  refine lv_icmp_eq (tgt := 1677) hx hb dL_law_1672 (by decide) (fun c_25 => ?_) (fun c_25 => absurd (by decide) c_25)
  exact law_tail C0 hS (lv_sub hl [0, 3] rfl)

set_option maxHeartbeats 4000000 in
set_option maxRecDepth 100000 in
theorem law_paste30 {p : Program} {l : Launch} {e : Env} {s : State} {m : MethodId} {below : List Frame} {meth : Method} {c : Code} {dC : Nat → ClassId} {dI : Nat → Nat → Nat} {b : Nat} {xs : Nat → Int32} {H : Heap} {locs : List Loc} {ls : Array Slot} {x_tape : Nat} {x_reader : Nat} {x_current : Nat} {x_images : Nat} {x_kept : Nat} {x_slots : Nat} {x_diary : Nat} {x_base : Nat} {x_trial : Nat} {x_plan : Nat} {x_orders : Nat} {x_unanswered : Nat} {s0 : Nat} {s1 : Nat} {s2 : Nat} {s3 : Nat} {y0 : Nat} {y3 : Nat} {zk : ClassId} {m_width : Nat} {m_many : Nat} {m_cells : Nat} {m_moved : Nat} {m_tape : Nat} {m_lines : Nat} {m_has : Nat} {m_person : Nat} {m_letter : Nat} {m_isKept : Nat} {m_more : Nat} {m_came : Nat} {m_answered : Nat} {m_left : Nat} {m_leftOn : Nat} {m_isBurnt : Nat} {m_heard : Nat} {m_waitsOn : Nat} {m_idleOn : Nat} {m_row : Nat} {m_key : Nat} {m_coming : Nat} {m_tried : Nat} {m_bestOrder : Nat} {m_before : Nat} {m_open : Nat} {mk_width : ClassId} {xq : Nat} {mq : Nat} (C0 : lw_At p s m meth c b 6 xs) (h1 : xs 1 = 3) (h3 : xs 3 = 0) (hK : va_K (dC, dI) vwCl [(zk, .object RX5), (mk_width, .int)] s) (hP : va_P (dC, dI) vwCl [(xq, .inr (8, [.ref x_tape, .ref x_reader, .ref x_current, .ref x_images, .ref x_kept, .ref x_slots, .ref x_diary, .ref x_base, .ref x_trial, .ref x_plan, .ref x_orders, .ref x_unanswered, .int 0, .int 0, .int (-1)])), (x_slots, .inl (zk, 4, .inr (.inr (.inr (.inr (va_up (va_up (va_up (va_up (fun _ => none) 0 (some s0)) 1 (some s1)) 2 (some s2)) 3 (some s3))))))), (s3, .inr (5, [.ref y3, .int 0, .int 0, .int 0])), (s0, .inr (5, [.ref y0, .int 0, .int 0, .int 0])), (mq, .inr (9, [.int 0, .ref m_width, .ref m_many, .ref m_cells, .ref m_moved, .ref m_tape, .int 0, .int 0, .int 0, .int 0, .int 0, .long 0, .int 0, .int 0, .int 0, .int (-1), .ref m_lines, .ref m_has, .ref m_person, .ref m_letter, .int 0, .ref m_isKept, .ref m_more, .int 0, .ref m_came, .ref m_answered, .ref m_left, .ref m_leftOn, .ref m_isBurnt, .ref m_heard, .ref m_waitsOn, .ref m_idleOn, .ref m_row, .int 0, .int 0, .long 0, .ref m_key, .int 0, .int 0, .int 0, .int 0, .int 0, .int 0, .int 0, .int 0, .ref m_coming, .int 0, .ref m_tried, .ref m_bestOrder, .int 0, .int 0, .ref m_before, .int 0, .ref m_open])), (m_width, .inl (mk_width, 4, .inl (upd (upd (upd (upd (fun _ => 0) 0 (-1)) 1 (-1)) 2 (-1)) 3 (-1))))] H) (hD : va_D (fun q : Nat => s.heap.size ≤ q) [(xq, .inr (8, [.ref x_tape, .ref x_reader, .ref x_current, .ref x_images, .ref x_kept, .ref x_slots, .ref x_diary, .ref x_base, .ref x_trial, .ref x_plan, .ref x_orders, .ref x_unanswered, .int 0, .int 0, .int (-1)])), (x_slots, .inl (zk, 4, .inr (.inr (.inr (.inr (va_up (va_up (va_up (va_up (fun _ => none) 0 (some s0)) 1 (some s1)) 2 (some s2)) 3 (some s3))))))), (s3, .inr (5, [.ref y3, .int 0, .int 0, .int 0])), (s0, .inr (5, [.ref y0, .int 0, .int 0, .int 0])), (mq, .inr (9, [.int 0, .ref m_width, .ref m_many, .ref m_cells, .ref m_moved, .ref m_tape, .int 0, .int 0, .int 0, .int 0, .int 0, .long 0, .int 0, .int 0, .int 0, .int (-1), .ref m_lines, .ref m_has, .ref m_person, .ref m_letter, .int 0, .ref m_isKept, .ref m_more, .int 0, .ref m_came, .ref m_answered, .ref m_left, .ref m_leftOn, .ref m_isBurnt, .ref m_heard, .ref m_waitsOn, .ref m_idleOn, .ref m_row, .int 0, .int 0, .long 0, .ref m_key, .int 0, .int 0, .int 0, .int 0, .int 0, .int 0, .int 0, .int 0, .ref m_coming, .int 0, .ref m_tried, .ref m_bestOrder, .int 0, .int 0, .ref m_before, .int 0, .ref m_open])), (m_width, .inl (mk_width, 4, .inl (upd (upd (upd (upd (fun _ => 0) 0 (-1)) 1 (-1)) 2 (-1)) 3 (-1))))]) (hS : va_S (fun q : Nat => s.heap.size ≤ q) s.heap H locs) (hl : lv_has ls 4 [(3, .int 0), (2, .ref mq), (1, .ref xq), (0, .ref b)]) : W p l e room_1 s m #[Value.ref b] below meth c H locs 144 16687 (lw_Z below #[Value.ref b] s) (F0 m 1614 ls []) := by
  obtain ⟨hx, hb, hr, hml, hown, hts0, hX, hbl, hlocks, hgv⟩ := id C0
  have hts : ∀ w ∈ ALLW, w.before #[Value.ref b] s = true := fun w h => hts0 w (inT w h)
  have hA : ∀ q : Nat, s.heap.size ≤ q → (fun q : Nat => s.heap.size ≤ q) q := fun _ h => h
  have hbA : ¬ (fun q : Nat => s.heap.size ≤ q) b := Nat.not_le.mpr hbl
  refine lv_aload_n hx hb dL_law_1614 rfl (lv_at hl 2 rfl) ?_
  refine lv_aload_n hx hb dL_law_1615 rfl (lv_at hl 3 rfl) ?_
  refine lv_iload_n hx hb dL_law_1616 rfl (lv_at hl 0 rfl) ?_
  refine lv_iconst (v := 1) hx hb dL_law_1617 (by decide) ?_
  refine lv_iadd hx hb dL_law_1618 ?_
  refine lv_topi (fun x_1 ex_1 => ?_)
  obtain rfl : x_1 = 1 := ex_1.trans (by decide +kernel)
  refine va_sld hx hb hX hbl hbA hS (show vp_in 1 6 from (by unfold vp_in; decide)) dL_law_1619 ?_
  refine lv_topi (fun x_2 ex_2 => ?_)
  obtain rfl : x_2 = 3 := ex_2.trans ((congrArg xs (by decide)).trans h1)
  refine lv_aload_n hx hb dL_law_1620 rfl (lv_at hl 3 rfl) ?_
  refine lv_iload_n hx hb dL_law_1621 rfl (lv_at hl 0 rfl) ?_
  refine lv_iconst (v := 2) hx hb dL_law_1622 (by decide) ?_
  refine lv_iadd hx hb dL_law_1623 ?_
  refine lv_topi (fun x_3 ex_3 => ?_)
  obtain rfl : x_3 = 2 := ex_3.trans (by decide +kernel)
  refine va_sld hx hb hX hbl hbA hS (show vp_in 2 6 from (by unfold vp_in; decide)) dL_law_1624 ?_
  refine lv_topi (fun x_4 ex_4 => ?_)
  obtain rfl : x_4 = xs 2 := ex_4.trans (congrArg xs (by decide))
  refine lv_aload_n hx hb dL_law_1625 rfl (lv_at hl 3 rfl) ?_
  refine lv_iload_n hx hb dL_law_1626 rfl (lv_at hl 0 rfl) ?_
  refine lv_iconst (v := 3) hx hb dL_law_1627 (by decide) ?_
  refine lv_iadd hx hb dL_law_1628 ?_
  refine lv_topi (fun x_5 ex_5 => ?_)
  obtain rfl : x_5 = 3 := ex_5.trans (by decide +kernel)
  refine va_sld hx hb hX hbl hbA hS (show vp_in 3 6 from (by unfold vp_in; decide)) dL_law_1629 ?_
  refine lv_topi (fun x_6 ex_6 => ?_)
  obtain rfl : x_6 = 0 := ex_6.trans ((congrArg xs (by decide)).trans h3)
  refine lv_aload_n hx hb dL_law_1630 rfl (lv_at hl 3 rfl) ?_
  refine lv_iload_n hx hb dL_law_1631 rfl (lv_at hl 0 rfl) ?_
  refine lv_iconst (v := 4) hx hb dL_law_1632 (by decide) ?_
  refine lv_iadd hx hb dL_law_1633 ?_
  refine lv_topi (fun x_7 ex_7 => ?_)
  obtain rfl : x_7 = 4 := ex_7.trans (by decide +kernel)
  refine va_sld hx hb hX hbl hbA hS (show vp_in 4 6 from (by unfold vp_in; decide)) dL_law_1634 ?_
  refine lv_topi (fun x_8 ex_8 => ?_)
  obtain rfl : x_8 = xs 4 := ex_8.trans (congrArg xs (by decide))
  refine lv_aload_n hx hb dL_law_1635 rfl (lv_at hl 3 rfl) ?_
  refine lv_iload_n hx hb dL_law_1636 rfl (lv_at hl 0 rfl) ?_
  refine lv_iconst (v := 5) hx hb dL_law_1637 (by decide) ?_
  refine lv_iadd hx hb dL_law_1638 ?_
  refine lv_topi (fun x_9 ex_9 => ?_)
  obtain rfl : x_9 = 5 := ex_9.trans (by decide +kernel)
  refine va_sld hx hb hX hbl hbA hS (show vp_in 5 6 from (by unfold vp_in; decide)) dL_law_1639 ?_
  refine lv_topi (fun x_10 ex_10 => ?_)
  obtain rfl : x_10 = xs 5 := ex_10.trans (congrArg xs (by decide))
  have hPc := hP.sub (ws' := [(xq, .inr (8, [.ref x_tape, .ref x_reader, .ref x_current, .ref x_images, .ref x_kept, .ref x_slots, .ref x_diary, .ref x_base, .ref x_trial, .ref x_plan, .ref x_orders, .ref x_unanswered, .int 0, .int 0, .int (-1)])), (x_slots, .inl (zk, 4, .inr (.inr (.inr (.inr (va_up (va_up (va_up (va_up (fun _ => none) 0 (some s0)) 1 (some s1)) 2 (some s2)) 3 (some s3))))))), (s3, .inr (5, [.ref y3, .int 0, .int 0, .int 0])), (s0, .inr (5, [.ref y0, .int 0, .int 0, .int 0]))]) [0, 1, 2, 3] rfl
  have hDc := hD.sub (ws' := [(xq, .inr (8, [.ref x_tape, .ref x_reader, .ref x_current, .ref x_images, .ref x_kept, .ref x_slots, .ref x_diary, .ref x_base, .ref x_trial, .ref x_plan, .ref x_orders, .ref x_unanswered, .int 0, .int 0, .int (-1)])), (x_slots, .inl (zk, 4, .inr (.inr (.inr (.inr (va_up (va_up (va_up (va_up (fun _ => none) 0 (some s0)) 1 (some s1)) 2 (some s2)) 3 (some s3))))))), (s3, .inr (5, [.ref y3, .int 0, .int 0, .int 0])), (s0, .inr (5, [.ref y0, .int 0, .int 0, .int 0]))]) [0, 1, 2, 3] (by decide) rfl
  have hKc := hK.sub (tys' := [(zk, .object RX5)]) [0] rfl
  have hFc := va_free (wc := [(xq, .inr (8, [.ref x_tape, .ref x_reader, .ref x_current, .ref x_images, .ref x_kept, .ref x_slots, .ref x_diary, .ref x_base, .ref x_trial, .ref x_plan, .ref x_orders, .ref x_unanswered, .int 0, .int 0, .int (-1)])), (x_slots, .inl (zk, 4, .inr (.inr (.inr (.inr (va_up (va_up (va_up (va_up (fun _ => none) 0 (some s0)) 1 (some s1)) 2 (some s2)) 3 (some s3))))))), (s3, .inr (5, [.ref y3, .int 0, .int 0, .int 0])), (s0, .inr (5, [.ref y0, .int 0, .int 0, .int 0]))]) hD hS hA [0, 1, 2, 3] rfl
  refine va_calli (va_runV (As := [.int 3, .int (xs 2), .int 0, .int (xs 4), .int (xs 5)]) (rest := []) ⟨hx, hb, hml, hown, hts⟩ (x_paste30 l dC dI H.size xq x_tape x_reader x_current x_images x_kept x_slots x_diary x_base x_trial x_plan x_orders x_unanswered s0 s1 s2 s3 y0 0 0 y3 zk ((xs 2)) ((xs 4)) ((xs 5)) ) (cwV 5 hts (goodV w_1358 w_1359 w_1360 w_2 w_1361) rfl rfl rfl hdV_X8_paste ⟨Nat.le_of_ble_eq_true rfl, Nat.le_of_ble_eq_true rfl⟩) ⟨fun a U g mk q => by obtain ⟨q0, q1, qP, qK, qD⟩ := q; exact ⟨q0, q1, qP, va_K.moved (u := U) (U := U.calling g mk a) (Vm.Alike.refl U.vm) qK, qD⟩, va_recv hKc hPc (ci := 8) (q0 := 0) rfl rfl, fun U hU hW => ⟨rfl, by rw [hU], by rw [hU]; exact hPc, va_K.moved hW.alike hKc, hDc.weaken (fun _ _ _ _ => trivial)⟩⟩ rfl rfl hl.1 rfl (lv_room (Nat.le_of_ble_eq_true rfl)) dL_law_1640 ⟨Nat.le_of_ble_eq_true rfl, Nat.le_of_ble_eq_true rfl⟩) hS (fun q _ h => hFc q h) hFc (fun r_11 u t H1 locs ht hvm hw hB hz1 hk1 hS => ?_)
  obtain ⟨hP, hD⟩ := va_join (wr := [(mq, .inr (9, [.int 0, .ref m_width, .ref m_many, .ref m_cells, .ref m_moved, .ref m_tape, .int 0, .int 0, .int 0, .int 0, .int 0, .long 0, .int 0, .int 0, .int 0, .int (-1), .ref m_lines, .ref m_has, .ref m_person, .ref m_letter, .int 0, .ref m_isKept, .ref m_more, .int 0, .ref m_came, .ref m_answered, .ref m_left, .ref m_leftOn, .ref m_isBurnt, .ref m_heard, .ref m_waitsOn, .ref m_idleOn, .ref m_row, .int 0, .int 0, .long 0, .ref m_key, .int 0, .int 0, .int 0, .int 0, .int 0, .int 0, .int 0, .int 0, .ref m_coming, .int 0, .ref m_tried, .ref m_bestOrder, .int 0, .int 0, .ref m_before, .int 0, .ref m_open])), (m_width, .inl (mk_width, 4, .inl (upd (upd (upd (upd (fun _ => 0) 0 (-1)) 1 (-1)) 2 (-1)) 3 (-1))))]) (w1 := []) hP hD [0, 1, 2, 3] [4, 5] rfl rfl (by decide) (by decide) hk1 hFc nilP nilD
  clear hPc hDc hKc hFc
  generalize H1 = H at hP hS ⊢
  have hP : va_P (dC, dI) vwCl [(mq, .inr (9, [.int 0, .ref m_width, .ref m_many, .ref m_cells, .ref m_moved, .ref m_tape, .int 0, .int 0, .int 0, .int 0, .int 0, .long 0, .int 0, .int 0, .int 0, .int (-1), .ref m_lines, .ref m_has, .ref m_person, .ref m_letter, .int 0, .ref m_isKept, .ref m_more, .int 0, .ref m_came, .ref m_answered, .ref m_left, .ref m_leftOn, .ref m_isBurnt, .ref m_heard, .ref m_waitsOn, .ref m_idleOn, .ref m_row, .int 0, .int 0, .long 0, .ref m_key, .int 0, .int 0, .int 0, .int 0, .int 0, .int 0, .int 0, .int 0, .ref m_coming, .int 0, .ref m_tried, .ref m_bestOrder, .int 0, .int 0, .ref m_before, .int 0, .ref m_open])), (m_width, .inl (mk_width, 4, .inl (upd (upd (upd (upd (fun _ => 0) 0 (-1)) 1 (-1)) 2 (-1)) 3 (-1))))] H := hP
  have hD : va_D (fun q : Nat => s.heap.size ≤ q) [(mq, .inr (9, [.int 0, .ref m_width, .ref m_many, .ref m_cells, .ref m_moved, .ref m_tape, .int 0, .int 0, .int 0, .int 0, .int 0, .long 0, .int 0, .int 0, .int 0, .int (-1), .ref m_lines, .ref m_has, .ref m_person, .ref m_letter, .int 0, .ref m_isKept, .ref m_more, .int 0, .ref m_came, .ref m_answered, .ref m_left, .ref m_leftOn, .ref m_isBurnt, .ref m_heard, .ref m_waitsOn, .ref m_idleOn, .ref m_row, .int 0, .int 0, .long 0, .ref m_key, .int 0, .int 0, .int 0, .int 0, .int 0, .int 0, .int 0, .int 0, .ref m_coming, .int 0, .ref m_tried, .ref m_bestOrder, .int 0, .int 0, .ref m_before, .int 0, .ref m_open])), (m_width, .inl (mk_width, 4, .inl (upd (upd (upd (upd (fun _ => 0) 0 (-1)) 1 (-1)) 2 (-1)) 3 (-1))))] := hD
  have hw : r_11 = (-6) := hw
  subst hw
  refine lv_aload_n hx hb dL_law_1643 rfl (lv_at hl 1 rfl) ?_
  refine lv_aload_n hx hb dL_law_1644 rfl (lv_at hl 3 rfl) ?_
  refine lv_iload_n hx hb dL_law_1645 rfl (lv_at hl 0 rfl) ?_
  refine lv_iconst (v := 1) hx hb dL_law_1646 (by decide) ?_
  refine lv_iadd hx hb dL_law_1647 ?_
  refine lv_topi (fun x_12 ex_12 => ?_)
  obtain rfl : x_12 = 1 := ex_12.trans (by decide +kernel)
  refine va_sld hx hb hX hbl hbA hS (show vp_in 1 6 from (by unfold vp_in; decide)) dL_law_1648 ?_
  refine lv_topi (fun x_13 ex_13 => ?_)
  obtain rfl : x_13 = 3 := ex_13.trans ((congrArg xs (by decide)).trans h1)
  refine lv_aload_n hx hb dL_law_1649 rfl (lv_at hl 3 rfl) ?_
  refine lv_iload_n hx hb dL_law_1650 rfl (lv_at hl 0 rfl) ?_
  refine lv_iconst (v := 2) hx hb dL_law_1651 (by decide) ?_
  refine lv_iadd hx hb dL_law_1652 ?_
  refine lv_topi (fun x_14 ex_14 => ?_)
  obtain rfl : x_14 = 2 := ex_14.trans (by decide +kernel)
  refine va_sld hx hb hX hbl hbA hS (show vp_in 2 6 from (by unfold vp_in; decide)) dL_law_1653 ?_
  refine lv_topi (fun x_15 ex_15 => ?_)
  obtain rfl : x_15 = xs 2 := ex_15.trans (congrArg xs (by decide))
  refine lv_aload_n hx hb dL_law_1654 rfl (lv_at hl 3 rfl) ?_
  refine lv_iload_n hx hb dL_law_1655 rfl (lv_at hl 0 rfl) ?_
  refine lv_iconst (v := 3) hx hb dL_law_1656 (by decide) ?_
  refine lv_iadd hx hb dL_law_1657 ?_
  refine lv_topi (fun x_16 ex_16 => ?_)
  obtain rfl : x_16 = 3 := ex_16.trans (by decide +kernel)
  refine va_sld hx hb hX hbl hbA hS (show vp_in 3 6 from (by unfold vp_in; decide)) dL_law_1658 ?_
  refine lv_topi (fun x_17 ex_17 => ?_)
  obtain rfl : x_17 = 0 := ex_17.trans ((congrArg xs (by decide)).trans h3)
  refine lv_aload_n hx hb dL_law_1659 rfl (lv_at hl 3 rfl) ?_
  refine lv_iload_n hx hb dL_law_1660 rfl (lv_at hl 0 rfl) ?_
  refine lv_iconst (v := 4) hx hb dL_law_1661 (by decide) ?_
  refine lv_iadd hx hb dL_law_1662 ?_
  refine lv_topi (fun x_18 ex_18 => ?_)
  obtain rfl : x_18 = 4 := ex_18.trans (by decide +kernel)
  refine va_sld hx hb hX hbl hbA hS (show vp_in 4 6 from (by unfold vp_in; decide)) dL_law_1663 ?_
  refine lv_topi (fun x_19 ex_19 => ?_)
  obtain rfl : x_19 = xs 4 := ex_19.trans (congrArg xs (by decide))
  refine lv_aload_n hx hb dL_law_1664 rfl (lv_at hl 3 rfl) ?_
  refine lv_iload_n hx hb dL_law_1665 rfl (lv_at hl 0 rfl) ?_
  refine lv_iconst (v := 5) hx hb dL_law_1666 (by decide) ?_
  refine lv_iadd hx hb dL_law_1667 ?_
  refine lv_topi (fun x_20 ex_20 => ?_)
  obtain rfl : x_20 = 5 := ex_20.trans (by decide +kernel)
  refine va_sld hx hb hX hbl hbA hS (show vp_in 5 6 from (by unfold vp_in; decide)) dL_law_1668 ?_
  refine lv_topi (fun x_21 ex_21 => ?_)
  obtain rfl : x_21 = xs 5 := ex_21.trans (congrArg xs (by decide))
  have hPc := hP.sub (ws' := [(mq, .inr (9, [.int 0, .ref m_width, .ref m_many, .ref m_cells, .ref m_moved, .ref m_tape, .int 0, .int 0, .int 0, .int 0, .int 0, .long 0, .int 0, .int 0, .int 0, .int (-1), .ref m_lines, .ref m_has, .ref m_person, .ref m_letter, .int 0, .ref m_isKept, .ref m_more, .int 0, .ref m_came, .ref m_answered, .ref m_left, .ref m_leftOn, .ref m_isBurnt, .ref m_heard, .ref m_waitsOn, .ref m_idleOn, .ref m_row, .int 0, .int 0, .long 0, .ref m_key, .int 0, .int 0, .int 0, .int 0, .int 0, .int 0, .int 0, .int 0, .ref m_coming, .int 0, .ref m_tried, .ref m_bestOrder, .int 0, .int 0, .ref m_before, .int 0, .ref m_open])), (m_width, .inl (mk_width, 4, .inl (upd (upd (upd (upd (fun _ => 0) 0 (-1)) 1 (-1)) 2 (-1)) 3 (-1))))]) [0, 1] rfl
  have hDc := hD.sub (ws' := [(mq, .inr (9, [.int 0, .ref m_width, .ref m_many, .ref m_cells, .ref m_moved, .ref m_tape, .int 0, .int 0, .int 0, .int 0, .int 0, .long 0, .int 0, .int 0, .int 0, .int (-1), .ref m_lines, .ref m_has, .ref m_person, .ref m_letter, .int 0, .ref m_isKept, .ref m_more, .int 0, .ref m_came, .ref m_answered, .ref m_left, .ref m_leftOn, .ref m_isBurnt, .ref m_heard, .ref m_waitsOn, .ref m_idleOn, .ref m_row, .int 0, .int 0, .long 0, .ref m_key, .int 0, .int 0, .int 0, .int 0, .int 0, .int 0, .int 0, .int 0, .ref m_coming, .int 0, .ref m_tried, .ref m_bestOrder, .int 0, .int 0, .ref m_before, .int 0, .ref m_open])), (m_width, .inl (mk_width, 4, .inl (upd (upd (upd (upd (fun _ => 0) 0 (-1)) 1 (-1)) 2 (-1)) 3 (-1))))]) [0, 1] (by decide) rfl
  have hKc := hK.sub (tys' := [(mk_width, .int)]) [1] rfl
  have hFc := va_free (wc := [(mq, .inr (9, [.int 0, .ref m_width, .ref m_many, .ref m_cells, .ref m_moved, .ref m_tape, .int 0, .int 0, .int 0, .int 0, .int 0, .long 0, .int 0, .int 0, .int 0, .int (-1), .ref m_lines, .ref m_has, .ref m_person, .ref m_letter, .int 0, .ref m_isKept, .ref m_more, .int 0, .ref m_came, .ref m_answered, .ref m_left, .ref m_leftOn, .ref m_isBurnt, .ref m_heard, .ref m_waitsOn, .ref m_idleOn, .ref m_row, .int 0, .int 0, .long 0, .ref m_key, .int 0, .int 0, .int 0, .int 0, .int 0, .int 0, .int 0, .int 0, .ref m_coming, .int 0, .ref m_tried, .ref m_bestOrder, .int 0, .int 0, .ref m_before, .int 0, .ref m_open])), (m_width, .inl (mk_width, 4, .inl (upd (upd (upd (upd (fun _ => 0) 0 (-1)) 1 (-1)) 2 (-1)) 3 (-1))))]) hD hS hA [0, 1] rfl
  refine va_calli (va_runV (As := [.int 3, .int (xs 2), .int 0, .int (xs 4), .int (xs 5)]) (rest := [.int (-6)]) ⟨hx, hb, hml, hown, hts⟩ (mc_paste30 l dC dI H.size mq m_width m_many m_cells m_moved m_tape m_lines m_has m_person m_letter m_isKept m_more m_came m_answered m_left m_leftOn m_isBurnt m_heard m_waitsOn m_idleOn m_row m_key m_coming m_tried m_bestOrder m_before m_open mk_width ((xs 2)) ((xs 4)) ((xs 5)) ) (cwV 5 hts (goodV w_1368 w_1369 w_1370 w_5 w_1371) rfl rfl rfl hdV_X9_paste ⟨Nat.le_of_ble_eq_true rfl, Nat.le_of_ble_eq_true rfl⟩) ⟨fun a U g mk q => by obtain ⟨q0, q1, qP, qK, qD⟩ := q; exact ⟨q0, q1, qP, va_K.moved (u := U) (U := U.calling g mk a) (Vm.Alike.refl U.vm) qK, qD⟩, va_recv hKc hPc (ci := 9) (q0 := 0) rfl rfl, fun U hU hW => ⟨rfl, by rw [hU], by rw [hU]; exact hPc, va_K.moved hW.alike hKc, hDc.weaken (fun _ _ _ _ => trivial)⟩⟩ rfl rfl hl.1 rfl (lv_room (Nat.le_of_ble_eq_true rfl)) dL_law_1669 ⟨Nat.le_of_ble_eq_true rfl, Nat.le_of_ble_eq_true rfl⟩) hS (fun q _ h => hFc q h) hFc (fun r_22 u t H1 locs ht hvm hw hB hz1 hk1 hS => ?_)
  obtain ⟨hP, hD⟩ := va_join (wr := []) (w1 := []) hP hD [0, 1] [] rfl rfl (by decide) (by decide) hk1 hFc nilP nilD
  clear hPc hDc hKc hFc
  generalize H1 = H at hP hS ⊢
  have hP : va_P (dC, dI) vwCl [] H := hP
  have hD : va_D (fun q : Nat => s.heap.size ≤ q) [] := hD
  have hw : r_22 = (-6) := hw
  subst hw
  refine lv_icmp_eq (tgt := 1677) hx hb dL_law_1672 (by decide) (fun c_23 => ?_) (fun c_23 => absurd (by decide) c_23)
  exact law_tail C0 hS (lv_sub hl [0, 3] rfl)

set_option maxHeartbeats 4000000 in
set_option maxRecDepth 100000 in
theorem law_paste31 {p : Program} {l : Launch} {e : Env} {s : State} {m : MethodId} {below : List Frame} {meth : Method} {c : Code} {dC : Nat → ClassId} {dI : Nat → Nat → Nat} {b : Nat} {xs : Nat → Int32} {H : Heap} {locs : List Loc} {ls : Array Slot} {x_tape : Nat} {x_reader : Nat} {x_current : Nat} {x_images : Nat} {x_kept : Nat} {x_slots : Nat} {x_diary : Nat} {x_base : Nat} {x_trial : Nat} {x_plan : Nat} {x_orders : Nat} {x_unanswered : Nat} {s0 : Nat} {s1 : Nat} {s2 : Nat} {s3 : Nat} {y1 : Nat} {y3 : Nat} {zk : ClassId} {m_width : Nat} {m_many : Nat} {m_cells : Nat} {m_moved : Nat} {m_tape : Nat} {m_lines : Nat} {m_has : Nat} {m_person : Nat} {m_letter : Nat} {m_isKept : Nat} {m_more : Nat} {m_came : Nat} {m_answered : Nat} {m_left : Nat} {m_leftOn : Nat} {m_isBurnt : Nat} {m_heard : Nat} {m_waitsOn : Nat} {m_idleOn : Nat} {m_row : Nat} {m_key : Nat} {m_coming : Nat} {m_tried : Nat} {m_bestOrder : Nat} {m_before : Nat} {m_open : Nat} {mk_width : ClassId} {xq : Nat} {mq : Nat} (C0 : lw_At p s m meth c b 6 xs) (h1 : xs 1 = 3) (h3 : xs 3 = 1) (hK : va_K (dC, dI) vwCl [(zk, .object RX5), (mk_width, .int)] s) (hP : va_P (dC, dI) vwCl [(xq, .inr (8, [.ref x_tape, .ref x_reader, .ref x_current, .ref x_images, .ref x_kept, .ref x_slots, .ref x_diary, .ref x_base, .ref x_trial, .ref x_plan, .ref x_orders, .ref x_unanswered, .int 0, .int 0, .int (-1)])), (x_slots, .inl (zk, 4, .inr (.inr (.inr (.inr (va_up (va_up (va_up (va_up (fun _ => none) 0 (some s0)) 1 (some s1)) 2 (some s2)) 3 (some s3))))))), (s3, .inr (5, [.ref y3, .int 0, .int 0, .int 0])), (s1, .inr (5, [.ref y1, .int 0, .int 0, .int 0])), (mq, .inr (9, [.int 0, .ref m_width, .ref m_many, .ref m_cells, .ref m_moved, .ref m_tape, .int 0, .int 0, .int 0, .int 0, .int 0, .long 0, .int 0, .int 0, .int 0, .int (-1), .ref m_lines, .ref m_has, .ref m_person, .ref m_letter, .int 0, .ref m_isKept, .ref m_more, .int 0, .ref m_came, .ref m_answered, .ref m_left, .ref m_leftOn, .ref m_isBurnt, .ref m_heard, .ref m_waitsOn, .ref m_idleOn, .ref m_row, .int 0, .int 0, .long 0, .ref m_key, .int 0, .int 0, .int 0, .int 0, .int 0, .int 0, .int 0, .int 0, .ref m_coming, .int 0, .ref m_tried, .ref m_bestOrder, .int 0, .int 0, .ref m_before, .int 0, .ref m_open])), (m_width, .inl (mk_width, 4, .inl (upd (upd (upd (upd (fun _ => 0) 0 (-1)) 1 (-1)) 2 (-1)) 3 (-1))))] H) (hD : va_D (fun q : Nat => s.heap.size ≤ q) [(xq, .inr (8, [.ref x_tape, .ref x_reader, .ref x_current, .ref x_images, .ref x_kept, .ref x_slots, .ref x_diary, .ref x_base, .ref x_trial, .ref x_plan, .ref x_orders, .ref x_unanswered, .int 0, .int 0, .int (-1)])), (x_slots, .inl (zk, 4, .inr (.inr (.inr (.inr (va_up (va_up (va_up (va_up (fun _ => none) 0 (some s0)) 1 (some s1)) 2 (some s2)) 3 (some s3))))))), (s3, .inr (5, [.ref y3, .int 0, .int 0, .int 0])), (s1, .inr (5, [.ref y1, .int 0, .int 0, .int 0])), (mq, .inr (9, [.int 0, .ref m_width, .ref m_many, .ref m_cells, .ref m_moved, .ref m_tape, .int 0, .int 0, .int 0, .int 0, .int 0, .long 0, .int 0, .int 0, .int 0, .int (-1), .ref m_lines, .ref m_has, .ref m_person, .ref m_letter, .int 0, .ref m_isKept, .ref m_more, .int 0, .ref m_came, .ref m_answered, .ref m_left, .ref m_leftOn, .ref m_isBurnt, .ref m_heard, .ref m_waitsOn, .ref m_idleOn, .ref m_row, .int 0, .int 0, .long 0, .ref m_key, .int 0, .int 0, .int 0, .int 0, .int 0, .int 0, .int 0, .int 0, .ref m_coming, .int 0, .ref m_tried, .ref m_bestOrder, .int 0, .int 0, .ref m_before, .int 0, .ref m_open])), (m_width, .inl (mk_width, 4, .inl (upd (upd (upd (upd (fun _ => 0) 0 (-1)) 1 (-1)) 2 (-1)) 3 (-1))))]) (hS : va_S (fun q : Nat => s.heap.size ≤ q) s.heap H locs) (hl : lv_has ls 4 [(3, .int 0), (2, .ref mq), (1, .ref xq), (0, .ref b)]) : W p l e room_1 s m #[Value.ref b] below meth c H locs 144 16687 (lw_Z below #[Value.ref b] s) (F0 m 1614 ls []) := by
  obtain ⟨hx, hb, hr, hml, hown, hts0, hX, hbl, hlocks, hgv⟩ := id C0
  have hts : ∀ w ∈ ALLW, w.before #[Value.ref b] s = true := fun w h => hts0 w (inT w h)
  have hA : ∀ q : Nat, s.heap.size ≤ q → (fun q : Nat => s.heap.size ≤ q) q := fun _ h => h
  have hbA : ¬ (fun q : Nat => s.heap.size ≤ q) b := Nat.not_le.mpr hbl
  refine lv_aload_n hx hb dL_law_1614 rfl (lv_at hl 2 rfl) ?_
  refine lv_aload_n hx hb dL_law_1615 rfl (lv_at hl 3 rfl) ?_
  refine lv_iload_n hx hb dL_law_1616 rfl (lv_at hl 0 rfl) ?_
  refine lv_iconst (v := 1) hx hb dL_law_1617 (by decide) ?_
  refine lv_iadd hx hb dL_law_1618 ?_
  refine lv_topi (fun x_1 ex_1 => ?_)
  obtain rfl : x_1 = 1 := ex_1.trans (by decide +kernel)
  refine va_sld hx hb hX hbl hbA hS (show vp_in 1 6 from (by unfold vp_in; decide)) dL_law_1619 ?_
  refine lv_topi (fun x_2 ex_2 => ?_)
  obtain rfl : x_2 = 3 := ex_2.trans ((congrArg xs (by decide)).trans h1)
  refine lv_aload_n hx hb dL_law_1620 rfl (lv_at hl 3 rfl) ?_
  refine lv_iload_n hx hb dL_law_1621 rfl (lv_at hl 0 rfl) ?_
  refine lv_iconst (v := 2) hx hb dL_law_1622 (by decide) ?_
  refine lv_iadd hx hb dL_law_1623 ?_
  refine lv_topi (fun x_3 ex_3 => ?_)
  obtain rfl : x_3 = 2 := ex_3.trans (by decide +kernel)
  refine va_sld hx hb hX hbl hbA hS (show vp_in 2 6 from (by unfold vp_in; decide)) dL_law_1624 ?_
  refine lv_topi (fun x_4 ex_4 => ?_)
  obtain rfl : x_4 = xs 2 := ex_4.trans (congrArg xs (by decide))
  refine lv_aload_n hx hb dL_law_1625 rfl (lv_at hl 3 rfl) ?_
  refine lv_iload_n hx hb dL_law_1626 rfl (lv_at hl 0 rfl) ?_
  refine lv_iconst (v := 3) hx hb dL_law_1627 (by decide) ?_
  refine lv_iadd hx hb dL_law_1628 ?_
  refine lv_topi (fun x_5 ex_5 => ?_)
  obtain rfl : x_5 = 3 := ex_5.trans (by decide +kernel)
  refine va_sld hx hb hX hbl hbA hS (show vp_in 3 6 from (by unfold vp_in; decide)) dL_law_1629 ?_
  refine lv_topi (fun x_6 ex_6 => ?_)
  obtain rfl : x_6 = 1 := ex_6.trans ((congrArg xs (by decide)).trans h3)
  refine lv_aload_n hx hb dL_law_1630 rfl (lv_at hl 3 rfl) ?_
  refine lv_iload_n hx hb dL_law_1631 rfl (lv_at hl 0 rfl) ?_
  refine lv_iconst (v := 4) hx hb dL_law_1632 (by decide) ?_
  refine lv_iadd hx hb dL_law_1633 ?_
  refine lv_topi (fun x_7 ex_7 => ?_)
  obtain rfl : x_7 = 4 := ex_7.trans (by decide +kernel)
  refine va_sld hx hb hX hbl hbA hS (show vp_in 4 6 from (by unfold vp_in; decide)) dL_law_1634 ?_
  refine lv_topi (fun x_8 ex_8 => ?_)
  obtain rfl : x_8 = xs 4 := ex_8.trans (congrArg xs (by decide))
  refine lv_aload_n hx hb dL_law_1635 rfl (lv_at hl 3 rfl) ?_
  refine lv_iload_n hx hb dL_law_1636 rfl (lv_at hl 0 rfl) ?_
  refine lv_iconst (v := 5) hx hb dL_law_1637 (by decide) ?_
  refine lv_iadd hx hb dL_law_1638 ?_
  refine lv_topi (fun x_9 ex_9 => ?_)
  obtain rfl : x_9 = 5 := ex_9.trans (by decide +kernel)
  refine va_sld hx hb hX hbl hbA hS (show vp_in 5 6 from (by unfold vp_in; decide)) dL_law_1639 ?_
  refine lv_topi (fun x_10 ex_10 => ?_)
  obtain rfl : x_10 = xs 5 := ex_10.trans (congrArg xs (by decide))
  have hPc := hP.sub (ws' := [(xq, .inr (8, [.ref x_tape, .ref x_reader, .ref x_current, .ref x_images, .ref x_kept, .ref x_slots, .ref x_diary, .ref x_base, .ref x_trial, .ref x_plan, .ref x_orders, .ref x_unanswered, .int 0, .int 0, .int (-1)])), (x_slots, .inl (zk, 4, .inr (.inr (.inr (.inr (va_up (va_up (va_up (va_up (fun _ => none) 0 (some s0)) 1 (some s1)) 2 (some s2)) 3 (some s3))))))), (s3, .inr (5, [.ref y3, .int 0, .int 0, .int 0])), (s1, .inr (5, [.ref y1, .int 0, .int 0, .int 0]))]) [0, 1, 2, 3] rfl
  have hDc := hD.sub (ws' := [(xq, .inr (8, [.ref x_tape, .ref x_reader, .ref x_current, .ref x_images, .ref x_kept, .ref x_slots, .ref x_diary, .ref x_base, .ref x_trial, .ref x_plan, .ref x_orders, .ref x_unanswered, .int 0, .int 0, .int (-1)])), (x_slots, .inl (zk, 4, .inr (.inr (.inr (.inr (va_up (va_up (va_up (va_up (fun _ => none) 0 (some s0)) 1 (some s1)) 2 (some s2)) 3 (some s3))))))), (s3, .inr (5, [.ref y3, .int 0, .int 0, .int 0])), (s1, .inr (5, [.ref y1, .int 0, .int 0, .int 0]))]) [0, 1, 2, 3] (by decide) rfl
  have hKc := hK.sub (tys' := [(zk, .object RX5)]) [0] rfl
  have hFc := va_free (wc := [(xq, .inr (8, [.ref x_tape, .ref x_reader, .ref x_current, .ref x_images, .ref x_kept, .ref x_slots, .ref x_diary, .ref x_base, .ref x_trial, .ref x_plan, .ref x_orders, .ref x_unanswered, .int 0, .int 0, .int (-1)])), (x_slots, .inl (zk, 4, .inr (.inr (.inr (.inr (va_up (va_up (va_up (va_up (fun _ => none) 0 (some s0)) 1 (some s1)) 2 (some s2)) 3 (some s3))))))), (s3, .inr (5, [.ref y3, .int 0, .int 0, .int 0])), (s1, .inr (5, [.ref y1, .int 0, .int 0, .int 0]))]) hD hS hA [0, 1, 2, 3] rfl
  refine va_calli (va_runV (As := [.int 3, .int (xs 2), .int 1, .int (xs 4), .int (xs 5)]) (rest := []) ⟨hx, hb, hml, hown, hts⟩ (x_paste31 l dC dI H.size xq x_tape x_reader x_current x_images x_kept x_slots x_diary x_base x_trial x_plan x_orders x_unanswered s0 s1 s2 s3 0 y1 0 y3 zk ((xs 2)) ((xs 4)) ((xs 5)) ) (cwV 5 hts (goodV w_1358 w_1359 w_1360 w_2 w_1361) rfl rfl rfl hdV_X8_paste ⟨Nat.le_of_ble_eq_true rfl, Nat.le_of_ble_eq_true rfl⟩) ⟨fun a U g mk q => by obtain ⟨q0, q1, qP, qK, qD⟩ := q; exact ⟨q0, q1, qP, va_K.moved (u := U) (U := U.calling g mk a) (Vm.Alike.refl U.vm) qK, qD⟩, va_recv hKc hPc (ci := 8) (q0 := 0) rfl rfl, fun U hU hW => ⟨rfl, by rw [hU], by rw [hU]; exact hPc, va_K.moved hW.alike hKc, hDc.weaken (fun _ _ _ _ => trivial)⟩⟩ rfl rfl hl.1 rfl (lv_room (Nat.le_of_ble_eq_true rfl)) dL_law_1640 ⟨Nat.le_of_ble_eq_true rfl, Nat.le_of_ble_eq_true rfl⟩) hS (fun q _ h => hFc q h) hFc (fun r_11 u t H1 locs ht hvm hw hB hz1 hk1 hS => ?_)
  obtain ⟨hP, hD⟩ := va_join (wr := [(mq, .inr (9, [.int 0, .ref m_width, .ref m_many, .ref m_cells, .ref m_moved, .ref m_tape, .int 0, .int 0, .int 0, .int 0, .int 0, .long 0, .int 0, .int 0, .int 0, .int (-1), .ref m_lines, .ref m_has, .ref m_person, .ref m_letter, .int 0, .ref m_isKept, .ref m_more, .int 0, .ref m_came, .ref m_answered, .ref m_left, .ref m_leftOn, .ref m_isBurnt, .ref m_heard, .ref m_waitsOn, .ref m_idleOn, .ref m_row, .int 0, .int 0, .long 0, .ref m_key, .int 0, .int 0, .int 0, .int 0, .int 0, .int 0, .int 0, .int 0, .ref m_coming, .int 0, .ref m_tried, .ref m_bestOrder, .int 0, .int 0, .ref m_before, .int 0, .ref m_open])), (m_width, .inl (mk_width, 4, .inl (upd (upd (upd (upd (fun _ => 0) 0 (-1)) 1 (-1)) 2 (-1)) 3 (-1))))]) (w1 := []) hP hD [0, 1, 2, 3] [4, 5] rfl rfl (by decide) (by decide) hk1 hFc nilP nilD
  clear hPc hDc hKc hFc
  generalize H1 = H at hP hS ⊢
  have hP : va_P (dC, dI) vwCl [(mq, .inr (9, [.int 0, .ref m_width, .ref m_many, .ref m_cells, .ref m_moved, .ref m_tape, .int 0, .int 0, .int 0, .int 0, .int 0, .long 0, .int 0, .int 0, .int 0, .int (-1), .ref m_lines, .ref m_has, .ref m_person, .ref m_letter, .int 0, .ref m_isKept, .ref m_more, .int 0, .ref m_came, .ref m_answered, .ref m_left, .ref m_leftOn, .ref m_isBurnt, .ref m_heard, .ref m_waitsOn, .ref m_idleOn, .ref m_row, .int 0, .int 0, .long 0, .ref m_key, .int 0, .int 0, .int 0, .int 0, .int 0, .int 0, .int 0, .int 0, .ref m_coming, .int 0, .ref m_tried, .ref m_bestOrder, .int 0, .int 0, .ref m_before, .int 0, .ref m_open])), (m_width, .inl (mk_width, 4, .inl (upd (upd (upd (upd (fun _ => 0) 0 (-1)) 1 (-1)) 2 (-1)) 3 (-1))))] H := hP
  have hD : va_D (fun q : Nat => s.heap.size ≤ q) [(mq, .inr (9, [.int 0, .ref m_width, .ref m_many, .ref m_cells, .ref m_moved, .ref m_tape, .int 0, .int 0, .int 0, .int 0, .int 0, .long 0, .int 0, .int 0, .int 0, .int (-1), .ref m_lines, .ref m_has, .ref m_person, .ref m_letter, .int 0, .ref m_isKept, .ref m_more, .int 0, .ref m_came, .ref m_answered, .ref m_left, .ref m_leftOn, .ref m_isBurnt, .ref m_heard, .ref m_waitsOn, .ref m_idleOn, .ref m_row, .int 0, .int 0, .long 0, .ref m_key, .int 0, .int 0, .int 0, .int 0, .int 0, .int 0, .int 0, .int 0, .ref m_coming, .int 0, .ref m_tried, .ref m_bestOrder, .int 0, .int 0, .ref m_before, .int 0, .ref m_open])), (m_width, .inl (mk_width, 4, .inl (upd (upd (upd (upd (fun _ => 0) 0 (-1)) 1 (-1)) 2 (-1)) 3 (-1))))] := hD
  have hw : r_11 = (-6) := hw
  subst hw
  refine lv_aload_n hx hb dL_law_1643 rfl (lv_at hl 1 rfl) ?_
  refine lv_aload_n hx hb dL_law_1644 rfl (lv_at hl 3 rfl) ?_
  refine lv_iload_n hx hb dL_law_1645 rfl (lv_at hl 0 rfl) ?_
  refine lv_iconst (v := 1) hx hb dL_law_1646 (by decide) ?_
  refine lv_iadd hx hb dL_law_1647 ?_
  refine lv_topi (fun x_12 ex_12 => ?_)
  obtain rfl : x_12 = 1 := ex_12.trans (by decide +kernel)
  refine va_sld hx hb hX hbl hbA hS (show vp_in 1 6 from (by unfold vp_in; decide)) dL_law_1648 ?_
  refine lv_topi (fun x_13 ex_13 => ?_)
  obtain rfl : x_13 = 3 := ex_13.trans ((congrArg xs (by decide)).trans h1)
  refine lv_aload_n hx hb dL_law_1649 rfl (lv_at hl 3 rfl) ?_
  refine lv_iload_n hx hb dL_law_1650 rfl (lv_at hl 0 rfl) ?_
  refine lv_iconst (v := 2) hx hb dL_law_1651 (by decide) ?_
  refine lv_iadd hx hb dL_law_1652 ?_
  refine lv_topi (fun x_14 ex_14 => ?_)
  obtain rfl : x_14 = 2 := ex_14.trans (by decide +kernel)
  refine va_sld hx hb hX hbl hbA hS (show vp_in 2 6 from (by unfold vp_in; decide)) dL_law_1653 ?_
  refine lv_topi (fun x_15 ex_15 => ?_)
  obtain rfl : x_15 = xs 2 := ex_15.trans (congrArg xs (by decide))
  refine lv_aload_n hx hb dL_law_1654 rfl (lv_at hl 3 rfl) ?_
  refine lv_iload_n hx hb dL_law_1655 rfl (lv_at hl 0 rfl) ?_
  refine lv_iconst (v := 3) hx hb dL_law_1656 (by decide) ?_
  refine lv_iadd hx hb dL_law_1657 ?_
  refine lv_topi (fun x_16 ex_16 => ?_)
  obtain rfl : x_16 = 3 := ex_16.trans (by decide +kernel)
  refine va_sld hx hb hX hbl hbA hS (show vp_in 3 6 from (by unfold vp_in; decide)) dL_law_1658 ?_
  refine lv_topi (fun x_17 ex_17 => ?_)
  obtain rfl : x_17 = 1 := ex_17.trans ((congrArg xs (by decide)).trans h3)
  refine lv_aload_n hx hb dL_law_1659 rfl (lv_at hl 3 rfl) ?_
  refine lv_iload_n hx hb dL_law_1660 rfl (lv_at hl 0 rfl) ?_
  refine lv_iconst (v := 4) hx hb dL_law_1661 (by decide) ?_
  refine lv_iadd hx hb dL_law_1662 ?_
  refine lv_topi (fun x_18 ex_18 => ?_)
  obtain rfl : x_18 = 4 := ex_18.trans (by decide +kernel)
  refine va_sld hx hb hX hbl hbA hS (show vp_in 4 6 from (by unfold vp_in; decide)) dL_law_1663 ?_
  refine lv_topi (fun x_19 ex_19 => ?_)
  obtain rfl : x_19 = xs 4 := ex_19.trans (congrArg xs (by decide))
  refine lv_aload_n hx hb dL_law_1664 rfl (lv_at hl 3 rfl) ?_
  refine lv_iload_n hx hb dL_law_1665 rfl (lv_at hl 0 rfl) ?_
  refine lv_iconst (v := 5) hx hb dL_law_1666 (by decide) ?_
  refine lv_iadd hx hb dL_law_1667 ?_
  refine lv_topi (fun x_20 ex_20 => ?_)
  obtain rfl : x_20 = 5 := ex_20.trans (by decide +kernel)
  refine va_sld hx hb hX hbl hbA hS (show vp_in 5 6 from (by unfold vp_in; decide)) dL_law_1668 ?_
  refine lv_topi (fun x_21 ex_21 => ?_)
  obtain rfl : x_21 = xs 5 := ex_21.trans (congrArg xs (by decide))
  have hPc := hP.sub (ws' := [(mq, .inr (9, [.int 0, .ref m_width, .ref m_many, .ref m_cells, .ref m_moved, .ref m_tape, .int 0, .int 0, .int 0, .int 0, .int 0, .long 0, .int 0, .int 0, .int 0, .int (-1), .ref m_lines, .ref m_has, .ref m_person, .ref m_letter, .int 0, .ref m_isKept, .ref m_more, .int 0, .ref m_came, .ref m_answered, .ref m_left, .ref m_leftOn, .ref m_isBurnt, .ref m_heard, .ref m_waitsOn, .ref m_idleOn, .ref m_row, .int 0, .int 0, .long 0, .ref m_key, .int 0, .int 0, .int 0, .int 0, .int 0, .int 0, .int 0, .int 0, .ref m_coming, .int 0, .ref m_tried, .ref m_bestOrder, .int 0, .int 0, .ref m_before, .int 0, .ref m_open])), (m_width, .inl (mk_width, 4, .inl (upd (upd (upd (upd (fun _ => 0) 0 (-1)) 1 (-1)) 2 (-1)) 3 (-1))))]) [0, 1] rfl
  have hDc := hD.sub (ws' := [(mq, .inr (9, [.int 0, .ref m_width, .ref m_many, .ref m_cells, .ref m_moved, .ref m_tape, .int 0, .int 0, .int 0, .int 0, .int 0, .long 0, .int 0, .int 0, .int 0, .int (-1), .ref m_lines, .ref m_has, .ref m_person, .ref m_letter, .int 0, .ref m_isKept, .ref m_more, .int 0, .ref m_came, .ref m_answered, .ref m_left, .ref m_leftOn, .ref m_isBurnt, .ref m_heard, .ref m_waitsOn, .ref m_idleOn, .ref m_row, .int 0, .int 0, .long 0, .ref m_key, .int 0, .int 0, .int 0, .int 0, .int 0, .int 0, .int 0, .int 0, .ref m_coming, .int 0, .ref m_tried, .ref m_bestOrder, .int 0, .int 0, .ref m_before, .int 0, .ref m_open])), (m_width, .inl (mk_width, 4, .inl (upd (upd (upd (upd (fun _ => 0) 0 (-1)) 1 (-1)) 2 (-1)) 3 (-1))))]) [0, 1] (by decide) rfl
  have hKc := hK.sub (tys' := [(mk_width, .int)]) [1] rfl
  have hFc := va_free (wc := [(mq, .inr (9, [.int 0, .ref m_width, .ref m_many, .ref m_cells, .ref m_moved, .ref m_tape, .int 0, .int 0, .int 0, .int 0, .int 0, .long 0, .int 0, .int 0, .int 0, .int (-1), .ref m_lines, .ref m_has, .ref m_person, .ref m_letter, .int 0, .ref m_isKept, .ref m_more, .int 0, .ref m_came, .ref m_answered, .ref m_left, .ref m_leftOn, .ref m_isBurnt, .ref m_heard, .ref m_waitsOn, .ref m_idleOn, .ref m_row, .int 0, .int 0, .long 0, .ref m_key, .int 0, .int 0, .int 0, .int 0, .int 0, .int 0, .int 0, .int 0, .ref m_coming, .int 0, .ref m_tried, .ref m_bestOrder, .int 0, .int 0, .ref m_before, .int 0, .ref m_open])), (m_width, .inl (mk_width, 4, .inl (upd (upd (upd (upd (fun _ => 0) 0 (-1)) 1 (-1)) 2 (-1)) 3 (-1))))]) hD hS hA [0, 1] rfl
  refine va_calli (va_runV (As := [.int 3, .int (xs 2), .int 1, .int (xs 4), .int (xs 5)]) (rest := [.int (-6)]) ⟨hx, hb, hml, hown, hts⟩ (mc_paste31 l dC dI H.size mq m_width m_many m_cells m_moved m_tape m_lines m_has m_person m_letter m_isKept m_more m_came m_answered m_left m_leftOn m_isBurnt m_heard m_waitsOn m_idleOn m_row m_key m_coming m_tried m_bestOrder m_before m_open mk_width ((xs 2)) ((xs 4)) ((xs 5)) ) (cwV 5 hts (goodV w_1368 w_1369 w_1370 w_5 w_1371) rfl rfl rfl hdV_X9_paste ⟨Nat.le_of_ble_eq_true rfl, Nat.le_of_ble_eq_true rfl⟩) ⟨fun a U g mk q => by obtain ⟨q0, q1, qP, qK, qD⟩ := q; exact ⟨q0, q1, qP, va_K.moved (u := U) (U := U.calling g mk a) (Vm.Alike.refl U.vm) qK, qD⟩, va_recv hKc hPc (ci := 9) (q0 := 0) rfl rfl, fun U hU hW => ⟨rfl, by rw [hU], by rw [hU]; exact hPc, va_K.moved hW.alike hKc, hDc.weaken (fun _ _ _ _ => trivial)⟩⟩ rfl rfl hl.1 rfl (lv_room (Nat.le_of_ble_eq_true rfl)) dL_law_1669 ⟨Nat.le_of_ble_eq_true rfl, Nat.le_of_ble_eq_true rfl⟩) hS (fun q _ h => hFc q h) hFc (fun r_22 u t H1 locs ht hvm hw hB hz1 hk1 hS => ?_)
  obtain ⟨hP, hD⟩ := va_join (wr := []) (w1 := []) hP hD [0, 1] [] rfl rfl (by decide) (by decide) hk1 hFc nilP nilD
  clear hPc hDc hKc hFc
  generalize H1 = H at hP hS ⊢
  have hP : va_P (dC, dI) vwCl [] H := hP
  have hD : va_D (fun q : Nat => s.heap.size ≤ q) [] := hD
  have hw : r_22 = (-6) := hw
  subst hw
  refine lv_icmp_eq (tgt := 1677) hx hb dL_law_1672 (by decide) (fun c_23 => ?_) (fun c_23 => absurd (by decide) c_23)
  exact law_tail C0 hS (lv_sub hl [0, 3] rfl)

set_option maxHeartbeats 4000000 in
set_option maxRecDepth 100000 in
theorem law_paste32 {p : Program} {l : Launch} {e : Env} {s : State} {m : MethodId} {below : List Frame} {meth : Method} {c : Code} {dC : Nat → ClassId} {dI : Nat → Nat → Nat} {b : Nat} {xs : Nat → Int32} {H : Heap} {locs : List Loc} {ls : Array Slot} {x_tape : Nat} {x_reader : Nat} {x_current : Nat} {x_images : Nat} {x_kept : Nat} {x_slots : Nat} {x_diary : Nat} {x_base : Nat} {x_trial : Nat} {x_plan : Nat} {x_orders : Nat} {x_unanswered : Nat} {s0 : Nat} {s1 : Nat} {s2 : Nat} {s3 : Nat} {y2 : Nat} {y3 : Nat} {zk : ClassId} {m_width : Nat} {m_many : Nat} {m_cells : Nat} {m_moved : Nat} {m_tape : Nat} {m_lines : Nat} {m_has : Nat} {m_person : Nat} {m_letter : Nat} {m_isKept : Nat} {m_more : Nat} {m_came : Nat} {m_answered : Nat} {m_left : Nat} {m_leftOn : Nat} {m_isBurnt : Nat} {m_heard : Nat} {m_waitsOn : Nat} {m_idleOn : Nat} {m_row : Nat} {m_key : Nat} {m_coming : Nat} {m_tried : Nat} {m_bestOrder : Nat} {m_before : Nat} {m_open : Nat} {mk_width : ClassId} {xq : Nat} {mq : Nat} (C0 : lw_At p s m meth c b 6 xs) (h1 : xs 1 = 3) (h3 : xs 3 = 2) (hK : va_K (dC, dI) vwCl [(zk, .object RX5), (mk_width, .int)] s) (hP : va_P (dC, dI) vwCl [(xq, .inr (8, [.ref x_tape, .ref x_reader, .ref x_current, .ref x_images, .ref x_kept, .ref x_slots, .ref x_diary, .ref x_base, .ref x_trial, .ref x_plan, .ref x_orders, .ref x_unanswered, .int 0, .int 0, .int (-1)])), (x_slots, .inl (zk, 4, .inr (.inr (.inr (.inr (va_up (va_up (va_up (va_up (fun _ => none) 0 (some s0)) 1 (some s1)) 2 (some s2)) 3 (some s3))))))), (s3, .inr (5, [.ref y3, .int 0, .int 0, .int 0])), (s2, .inr (5, [.ref y2, .int 0, .int 0, .int 0])), (mq, .inr (9, [.int 0, .ref m_width, .ref m_many, .ref m_cells, .ref m_moved, .ref m_tape, .int 0, .int 0, .int 0, .int 0, .int 0, .long 0, .int 0, .int 0, .int 0, .int (-1), .ref m_lines, .ref m_has, .ref m_person, .ref m_letter, .int 0, .ref m_isKept, .ref m_more, .int 0, .ref m_came, .ref m_answered, .ref m_left, .ref m_leftOn, .ref m_isBurnt, .ref m_heard, .ref m_waitsOn, .ref m_idleOn, .ref m_row, .int 0, .int 0, .long 0, .ref m_key, .int 0, .int 0, .int 0, .int 0, .int 0, .int 0, .int 0, .int 0, .ref m_coming, .int 0, .ref m_tried, .ref m_bestOrder, .int 0, .int 0, .ref m_before, .int 0, .ref m_open])), (m_width, .inl (mk_width, 4, .inl (upd (upd (upd (upd (fun _ => 0) 0 (-1)) 1 (-1)) 2 (-1)) 3 (-1))))] H) (hD : va_D (fun q : Nat => s.heap.size ≤ q) [(xq, .inr (8, [.ref x_tape, .ref x_reader, .ref x_current, .ref x_images, .ref x_kept, .ref x_slots, .ref x_diary, .ref x_base, .ref x_trial, .ref x_plan, .ref x_orders, .ref x_unanswered, .int 0, .int 0, .int (-1)])), (x_slots, .inl (zk, 4, .inr (.inr (.inr (.inr (va_up (va_up (va_up (va_up (fun _ => none) 0 (some s0)) 1 (some s1)) 2 (some s2)) 3 (some s3))))))), (s3, .inr (5, [.ref y3, .int 0, .int 0, .int 0])), (s2, .inr (5, [.ref y2, .int 0, .int 0, .int 0])), (mq, .inr (9, [.int 0, .ref m_width, .ref m_many, .ref m_cells, .ref m_moved, .ref m_tape, .int 0, .int 0, .int 0, .int 0, .int 0, .long 0, .int 0, .int 0, .int 0, .int (-1), .ref m_lines, .ref m_has, .ref m_person, .ref m_letter, .int 0, .ref m_isKept, .ref m_more, .int 0, .ref m_came, .ref m_answered, .ref m_left, .ref m_leftOn, .ref m_isBurnt, .ref m_heard, .ref m_waitsOn, .ref m_idleOn, .ref m_row, .int 0, .int 0, .long 0, .ref m_key, .int 0, .int 0, .int 0, .int 0, .int 0, .int 0, .int 0, .int 0, .ref m_coming, .int 0, .ref m_tried, .ref m_bestOrder, .int 0, .int 0, .ref m_before, .int 0, .ref m_open])), (m_width, .inl (mk_width, 4, .inl (upd (upd (upd (upd (fun _ => 0) 0 (-1)) 1 (-1)) 2 (-1)) 3 (-1))))]) (hS : va_S (fun q : Nat => s.heap.size ≤ q) s.heap H locs) (hl : lv_has ls 4 [(3, .int 0), (2, .ref mq), (1, .ref xq), (0, .ref b)]) : W p l e room_1 s m #[Value.ref b] below meth c H locs 144 16687 (lw_Z below #[Value.ref b] s) (F0 m 1614 ls []) := by
  obtain ⟨hx, hb, hr, hml, hown, hts0, hX, hbl, hlocks, hgv⟩ := id C0
  have hts : ∀ w ∈ ALLW, w.before #[Value.ref b] s = true := fun w h => hts0 w (inT w h)
  have hA : ∀ q : Nat, s.heap.size ≤ q → (fun q : Nat => s.heap.size ≤ q) q := fun _ h => h
  have hbA : ¬ (fun q : Nat => s.heap.size ≤ q) b := Nat.not_le.mpr hbl
  refine lv_aload_n hx hb dL_law_1614 rfl (lv_at hl 2 rfl) ?_
  refine lv_aload_n hx hb dL_law_1615 rfl (lv_at hl 3 rfl) ?_
  refine lv_iload_n hx hb dL_law_1616 rfl (lv_at hl 0 rfl) ?_
  refine lv_iconst (v := 1) hx hb dL_law_1617 (by decide) ?_
  refine lv_iadd hx hb dL_law_1618 ?_
  refine lv_topi (fun x_1 ex_1 => ?_)
  obtain rfl : x_1 = 1 := ex_1.trans (by decide +kernel)
  refine va_sld hx hb hX hbl hbA hS (show vp_in 1 6 from (by unfold vp_in; decide)) dL_law_1619 ?_
  refine lv_topi (fun x_2 ex_2 => ?_)
  obtain rfl : x_2 = 3 := ex_2.trans ((congrArg xs (by decide)).trans h1)
  refine lv_aload_n hx hb dL_law_1620 rfl (lv_at hl 3 rfl) ?_
  refine lv_iload_n hx hb dL_law_1621 rfl (lv_at hl 0 rfl) ?_
  refine lv_iconst (v := 2) hx hb dL_law_1622 (by decide) ?_
  refine lv_iadd hx hb dL_law_1623 ?_
  refine lv_topi (fun x_3 ex_3 => ?_)
  obtain rfl : x_3 = 2 := ex_3.trans (by decide +kernel)
  refine va_sld hx hb hX hbl hbA hS (show vp_in 2 6 from (by unfold vp_in; decide)) dL_law_1624 ?_
  refine lv_topi (fun x_4 ex_4 => ?_)
  obtain rfl : x_4 = xs 2 := ex_4.trans (congrArg xs (by decide))
  refine lv_aload_n hx hb dL_law_1625 rfl (lv_at hl 3 rfl) ?_
  refine lv_iload_n hx hb dL_law_1626 rfl (lv_at hl 0 rfl) ?_
  refine lv_iconst (v := 3) hx hb dL_law_1627 (by decide) ?_
  refine lv_iadd hx hb dL_law_1628 ?_
  refine lv_topi (fun x_5 ex_5 => ?_)
  obtain rfl : x_5 = 3 := ex_5.trans (by decide +kernel)
  refine va_sld hx hb hX hbl hbA hS (show vp_in 3 6 from (by unfold vp_in; decide)) dL_law_1629 ?_
  refine lv_topi (fun x_6 ex_6 => ?_)
  obtain rfl : x_6 = 2 := ex_6.trans ((congrArg xs (by decide)).trans h3)
  refine lv_aload_n hx hb dL_law_1630 rfl (lv_at hl 3 rfl) ?_
  refine lv_iload_n hx hb dL_law_1631 rfl (lv_at hl 0 rfl) ?_
  refine lv_iconst (v := 4) hx hb dL_law_1632 (by decide) ?_
  refine lv_iadd hx hb dL_law_1633 ?_
  refine lv_topi (fun x_7 ex_7 => ?_)
  obtain rfl : x_7 = 4 := ex_7.trans (by decide +kernel)
  refine va_sld hx hb hX hbl hbA hS (show vp_in 4 6 from (by unfold vp_in; decide)) dL_law_1634 ?_
  refine lv_topi (fun x_8 ex_8 => ?_)
  obtain rfl : x_8 = xs 4 := ex_8.trans (congrArg xs (by decide))
  refine lv_aload_n hx hb dL_law_1635 rfl (lv_at hl 3 rfl) ?_
  refine lv_iload_n hx hb dL_law_1636 rfl (lv_at hl 0 rfl) ?_
  refine lv_iconst (v := 5) hx hb dL_law_1637 (by decide) ?_
  refine lv_iadd hx hb dL_law_1638 ?_
  refine lv_topi (fun x_9 ex_9 => ?_)
  obtain rfl : x_9 = 5 := ex_9.trans (by decide +kernel)
  refine va_sld hx hb hX hbl hbA hS (show vp_in 5 6 from (by unfold vp_in; decide)) dL_law_1639 ?_
  refine lv_topi (fun x_10 ex_10 => ?_)
  obtain rfl : x_10 = xs 5 := ex_10.trans (congrArg xs (by decide))
  have hPc := hP.sub (ws' := [(xq, .inr (8, [.ref x_tape, .ref x_reader, .ref x_current, .ref x_images, .ref x_kept, .ref x_slots, .ref x_diary, .ref x_base, .ref x_trial, .ref x_plan, .ref x_orders, .ref x_unanswered, .int 0, .int 0, .int (-1)])), (x_slots, .inl (zk, 4, .inr (.inr (.inr (.inr (va_up (va_up (va_up (va_up (fun _ => none) 0 (some s0)) 1 (some s1)) 2 (some s2)) 3 (some s3))))))), (s3, .inr (5, [.ref y3, .int 0, .int 0, .int 0])), (s2, .inr (5, [.ref y2, .int 0, .int 0, .int 0]))]) [0, 1, 2, 3] rfl
  have hDc := hD.sub (ws' := [(xq, .inr (8, [.ref x_tape, .ref x_reader, .ref x_current, .ref x_images, .ref x_kept, .ref x_slots, .ref x_diary, .ref x_base, .ref x_trial, .ref x_plan, .ref x_orders, .ref x_unanswered, .int 0, .int 0, .int (-1)])), (x_slots, .inl (zk, 4, .inr (.inr (.inr (.inr (va_up (va_up (va_up (va_up (fun _ => none) 0 (some s0)) 1 (some s1)) 2 (some s2)) 3 (some s3))))))), (s3, .inr (5, [.ref y3, .int 0, .int 0, .int 0])), (s2, .inr (5, [.ref y2, .int 0, .int 0, .int 0]))]) [0, 1, 2, 3] (by decide) rfl
  have hKc := hK.sub (tys' := [(zk, .object RX5)]) [0] rfl
  have hFc := va_free (wc := [(xq, .inr (8, [.ref x_tape, .ref x_reader, .ref x_current, .ref x_images, .ref x_kept, .ref x_slots, .ref x_diary, .ref x_base, .ref x_trial, .ref x_plan, .ref x_orders, .ref x_unanswered, .int 0, .int 0, .int (-1)])), (x_slots, .inl (zk, 4, .inr (.inr (.inr (.inr (va_up (va_up (va_up (va_up (fun _ => none) 0 (some s0)) 1 (some s1)) 2 (some s2)) 3 (some s3))))))), (s3, .inr (5, [.ref y3, .int 0, .int 0, .int 0])), (s2, .inr (5, [.ref y2, .int 0, .int 0, .int 0]))]) hD hS hA [0, 1, 2, 3] rfl
  refine va_calli (va_runV (As := [.int 3, .int (xs 2), .int 2, .int (xs 4), .int (xs 5)]) (rest := []) ⟨hx, hb, hml, hown, hts⟩ (x_paste32 l dC dI H.size xq x_tape x_reader x_current x_images x_kept x_slots x_diary x_base x_trial x_plan x_orders x_unanswered s0 s1 s2 s3 0 0 y2 y3 zk ((xs 2)) ((xs 4)) ((xs 5)) ) (cwV 5 hts (goodV w_1358 w_1359 w_1360 w_2 w_1361) rfl rfl rfl hdV_X8_paste ⟨Nat.le_of_ble_eq_true rfl, Nat.le_of_ble_eq_true rfl⟩) ⟨fun a U g mk q => by obtain ⟨q0, q1, qP, qK, qD⟩ := q; exact ⟨q0, q1, qP, va_K.moved (u := U) (U := U.calling g mk a) (Vm.Alike.refl U.vm) qK, qD⟩, va_recv hKc hPc (ci := 8) (q0 := 0) rfl rfl, fun U hU hW => ⟨rfl, by rw [hU], by rw [hU]; exact hPc, va_K.moved hW.alike hKc, hDc.weaken (fun _ _ _ _ => trivial)⟩⟩ rfl rfl hl.1 rfl (lv_room (Nat.le_of_ble_eq_true rfl)) dL_law_1640 ⟨Nat.le_of_ble_eq_true rfl, Nat.le_of_ble_eq_true rfl⟩) hS (fun q _ h => hFc q h) hFc (fun r_11 u t H1 locs ht hvm hw hB hz1 hk1 hS => ?_)
  obtain ⟨hP, hD⟩ := va_join (wr := [(mq, .inr (9, [.int 0, .ref m_width, .ref m_many, .ref m_cells, .ref m_moved, .ref m_tape, .int 0, .int 0, .int 0, .int 0, .int 0, .long 0, .int 0, .int 0, .int 0, .int (-1), .ref m_lines, .ref m_has, .ref m_person, .ref m_letter, .int 0, .ref m_isKept, .ref m_more, .int 0, .ref m_came, .ref m_answered, .ref m_left, .ref m_leftOn, .ref m_isBurnt, .ref m_heard, .ref m_waitsOn, .ref m_idleOn, .ref m_row, .int 0, .int 0, .long 0, .ref m_key, .int 0, .int 0, .int 0, .int 0, .int 0, .int 0, .int 0, .int 0, .ref m_coming, .int 0, .ref m_tried, .ref m_bestOrder, .int 0, .int 0, .ref m_before, .int 0, .ref m_open])), (m_width, .inl (mk_width, 4, .inl (upd (upd (upd (upd (fun _ => 0) 0 (-1)) 1 (-1)) 2 (-1)) 3 (-1))))]) (w1 := []) hP hD [0, 1, 2, 3] [4, 5] rfl rfl (by decide) (by decide) hk1 hFc nilP nilD
  clear hPc hDc hKc hFc
  generalize H1 = H at hP hS ⊢
  have hP : va_P (dC, dI) vwCl [(mq, .inr (9, [.int 0, .ref m_width, .ref m_many, .ref m_cells, .ref m_moved, .ref m_tape, .int 0, .int 0, .int 0, .int 0, .int 0, .long 0, .int 0, .int 0, .int 0, .int (-1), .ref m_lines, .ref m_has, .ref m_person, .ref m_letter, .int 0, .ref m_isKept, .ref m_more, .int 0, .ref m_came, .ref m_answered, .ref m_left, .ref m_leftOn, .ref m_isBurnt, .ref m_heard, .ref m_waitsOn, .ref m_idleOn, .ref m_row, .int 0, .int 0, .long 0, .ref m_key, .int 0, .int 0, .int 0, .int 0, .int 0, .int 0, .int 0, .int 0, .ref m_coming, .int 0, .ref m_tried, .ref m_bestOrder, .int 0, .int 0, .ref m_before, .int 0, .ref m_open])), (m_width, .inl (mk_width, 4, .inl (upd (upd (upd (upd (fun _ => 0) 0 (-1)) 1 (-1)) 2 (-1)) 3 (-1))))] H := hP
  have hD : va_D (fun q : Nat => s.heap.size ≤ q) [(mq, .inr (9, [.int 0, .ref m_width, .ref m_many, .ref m_cells, .ref m_moved, .ref m_tape, .int 0, .int 0, .int 0, .int 0, .int 0, .long 0, .int 0, .int 0, .int 0, .int (-1), .ref m_lines, .ref m_has, .ref m_person, .ref m_letter, .int 0, .ref m_isKept, .ref m_more, .int 0, .ref m_came, .ref m_answered, .ref m_left, .ref m_leftOn, .ref m_isBurnt, .ref m_heard, .ref m_waitsOn, .ref m_idleOn, .ref m_row, .int 0, .int 0, .long 0, .ref m_key, .int 0, .int 0, .int 0, .int 0, .int 0, .int 0, .int 0, .int 0, .ref m_coming, .int 0, .ref m_tried, .ref m_bestOrder, .int 0, .int 0, .ref m_before, .int 0, .ref m_open])), (m_width, .inl (mk_width, 4, .inl (upd (upd (upd (upd (fun _ => 0) 0 (-1)) 1 (-1)) 2 (-1)) 3 (-1))))] := hD
  have hw : r_11 = (-6) := hw
  subst hw
  refine lv_aload_n hx hb dL_law_1643 rfl (lv_at hl 1 rfl) ?_
  refine lv_aload_n hx hb dL_law_1644 rfl (lv_at hl 3 rfl) ?_
  refine lv_iload_n hx hb dL_law_1645 rfl (lv_at hl 0 rfl) ?_
  refine lv_iconst (v := 1) hx hb dL_law_1646 (by decide) ?_
  refine lv_iadd hx hb dL_law_1647 ?_
  refine lv_topi (fun x_12 ex_12 => ?_)
  obtain rfl : x_12 = 1 := ex_12.trans (by decide +kernel)
  refine va_sld hx hb hX hbl hbA hS (show vp_in 1 6 from (by unfold vp_in; decide)) dL_law_1648 ?_
  refine lv_topi (fun x_13 ex_13 => ?_)
  obtain rfl : x_13 = 3 := ex_13.trans ((congrArg xs (by decide)).trans h1)
  refine lv_aload_n hx hb dL_law_1649 rfl (lv_at hl 3 rfl) ?_
  refine lv_iload_n hx hb dL_law_1650 rfl (lv_at hl 0 rfl) ?_
  refine lv_iconst (v := 2) hx hb dL_law_1651 (by decide) ?_
  refine lv_iadd hx hb dL_law_1652 ?_
  refine lv_topi (fun x_14 ex_14 => ?_)
  obtain rfl : x_14 = 2 := ex_14.trans (by decide +kernel)
  refine va_sld hx hb hX hbl hbA hS (show vp_in 2 6 from (by unfold vp_in; decide)) dL_law_1653 ?_
  refine lv_topi (fun x_15 ex_15 => ?_)
  obtain rfl : x_15 = xs 2 := ex_15.trans (congrArg xs (by decide))
  refine lv_aload_n hx hb dL_law_1654 rfl (lv_at hl 3 rfl) ?_
  refine lv_iload_n hx hb dL_law_1655 rfl (lv_at hl 0 rfl) ?_
  refine lv_iconst (v := 3) hx hb dL_law_1656 (by decide) ?_
  refine lv_iadd hx hb dL_law_1657 ?_
  refine lv_topi (fun x_16 ex_16 => ?_)
  obtain rfl : x_16 = 3 := ex_16.trans (by decide +kernel)
  refine va_sld hx hb hX hbl hbA hS (show vp_in 3 6 from (by unfold vp_in; decide)) dL_law_1658 ?_
  refine lv_topi (fun x_17 ex_17 => ?_)
  obtain rfl : x_17 = 2 := ex_17.trans ((congrArg xs (by decide)).trans h3)
  refine lv_aload_n hx hb dL_law_1659 rfl (lv_at hl 3 rfl) ?_
  refine lv_iload_n hx hb dL_law_1660 rfl (lv_at hl 0 rfl) ?_
  refine lv_iconst (v := 4) hx hb dL_law_1661 (by decide) ?_
  refine lv_iadd hx hb dL_law_1662 ?_
  refine lv_topi (fun x_18 ex_18 => ?_)
  obtain rfl : x_18 = 4 := ex_18.trans (by decide +kernel)
  refine va_sld hx hb hX hbl hbA hS (show vp_in 4 6 from (by unfold vp_in; decide)) dL_law_1663 ?_
  refine lv_topi (fun x_19 ex_19 => ?_)
  obtain rfl : x_19 = xs 4 := ex_19.trans (congrArg xs (by decide))
  refine lv_aload_n hx hb dL_law_1664 rfl (lv_at hl 3 rfl) ?_
  refine lv_iload_n hx hb dL_law_1665 rfl (lv_at hl 0 rfl) ?_
  refine lv_iconst (v := 5) hx hb dL_law_1666 (by decide) ?_
  refine lv_iadd hx hb dL_law_1667 ?_
  refine lv_topi (fun x_20 ex_20 => ?_)
  obtain rfl : x_20 = 5 := ex_20.trans (by decide +kernel)
  refine va_sld hx hb hX hbl hbA hS (show vp_in 5 6 from (by unfold vp_in; decide)) dL_law_1668 ?_
  refine lv_topi (fun x_21 ex_21 => ?_)
  obtain rfl : x_21 = xs 5 := ex_21.trans (congrArg xs (by decide))
  have hPc := hP.sub (ws' := [(mq, .inr (9, [.int 0, .ref m_width, .ref m_many, .ref m_cells, .ref m_moved, .ref m_tape, .int 0, .int 0, .int 0, .int 0, .int 0, .long 0, .int 0, .int 0, .int 0, .int (-1), .ref m_lines, .ref m_has, .ref m_person, .ref m_letter, .int 0, .ref m_isKept, .ref m_more, .int 0, .ref m_came, .ref m_answered, .ref m_left, .ref m_leftOn, .ref m_isBurnt, .ref m_heard, .ref m_waitsOn, .ref m_idleOn, .ref m_row, .int 0, .int 0, .long 0, .ref m_key, .int 0, .int 0, .int 0, .int 0, .int 0, .int 0, .int 0, .int 0, .ref m_coming, .int 0, .ref m_tried, .ref m_bestOrder, .int 0, .int 0, .ref m_before, .int 0, .ref m_open])), (m_width, .inl (mk_width, 4, .inl (upd (upd (upd (upd (fun _ => 0) 0 (-1)) 1 (-1)) 2 (-1)) 3 (-1))))]) [0, 1] rfl
  have hDc := hD.sub (ws' := [(mq, .inr (9, [.int 0, .ref m_width, .ref m_many, .ref m_cells, .ref m_moved, .ref m_tape, .int 0, .int 0, .int 0, .int 0, .int 0, .long 0, .int 0, .int 0, .int 0, .int (-1), .ref m_lines, .ref m_has, .ref m_person, .ref m_letter, .int 0, .ref m_isKept, .ref m_more, .int 0, .ref m_came, .ref m_answered, .ref m_left, .ref m_leftOn, .ref m_isBurnt, .ref m_heard, .ref m_waitsOn, .ref m_idleOn, .ref m_row, .int 0, .int 0, .long 0, .ref m_key, .int 0, .int 0, .int 0, .int 0, .int 0, .int 0, .int 0, .int 0, .ref m_coming, .int 0, .ref m_tried, .ref m_bestOrder, .int 0, .int 0, .ref m_before, .int 0, .ref m_open])), (m_width, .inl (mk_width, 4, .inl (upd (upd (upd (upd (fun _ => 0) 0 (-1)) 1 (-1)) 2 (-1)) 3 (-1))))]) [0, 1] (by decide) rfl
  have hKc := hK.sub (tys' := [(mk_width, .int)]) [1] rfl
  have hFc := va_free (wc := [(mq, .inr (9, [.int 0, .ref m_width, .ref m_many, .ref m_cells, .ref m_moved, .ref m_tape, .int 0, .int 0, .int 0, .int 0, .int 0, .long 0, .int 0, .int 0, .int 0, .int (-1), .ref m_lines, .ref m_has, .ref m_person, .ref m_letter, .int 0, .ref m_isKept, .ref m_more, .int 0, .ref m_came, .ref m_answered, .ref m_left, .ref m_leftOn, .ref m_isBurnt, .ref m_heard, .ref m_waitsOn, .ref m_idleOn, .ref m_row, .int 0, .int 0, .long 0, .ref m_key, .int 0, .int 0, .int 0, .int 0, .int 0, .int 0, .int 0, .int 0, .ref m_coming, .int 0, .ref m_tried, .ref m_bestOrder, .int 0, .int 0, .ref m_before, .int 0, .ref m_open])), (m_width, .inl (mk_width, 4, .inl (upd (upd (upd (upd (fun _ => 0) 0 (-1)) 1 (-1)) 2 (-1)) 3 (-1))))]) hD hS hA [0, 1] rfl
  refine va_calli (va_runV (As := [.int 3, .int (xs 2), .int 2, .int (xs 4), .int (xs 5)]) (rest := [.int (-6)]) ⟨hx, hb, hml, hown, hts⟩ (mc_paste32 l dC dI H.size mq m_width m_many m_cells m_moved m_tape m_lines m_has m_person m_letter m_isKept m_more m_came m_answered m_left m_leftOn m_isBurnt m_heard m_waitsOn m_idleOn m_row m_key m_coming m_tried m_bestOrder m_before m_open mk_width ((xs 2)) ((xs 4)) ((xs 5)) ) (cwV 5 hts (goodV w_1368 w_1369 w_1370 w_5 w_1371) rfl rfl rfl hdV_X9_paste ⟨Nat.le_of_ble_eq_true rfl, Nat.le_of_ble_eq_true rfl⟩) ⟨fun a U g mk q => by obtain ⟨q0, q1, qP, qK, qD⟩ := q; exact ⟨q0, q1, qP, va_K.moved (u := U) (U := U.calling g mk a) (Vm.Alike.refl U.vm) qK, qD⟩, va_recv hKc hPc (ci := 9) (q0 := 0) rfl rfl, fun U hU hW => ⟨rfl, by rw [hU], by rw [hU]; exact hPc, va_K.moved hW.alike hKc, hDc.weaken (fun _ _ _ _ => trivial)⟩⟩ rfl rfl hl.1 rfl (lv_room (Nat.le_of_ble_eq_true rfl)) dL_law_1669 ⟨Nat.le_of_ble_eq_true rfl, Nat.le_of_ble_eq_true rfl⟩) hS (fun q _ h => hFc q h) hFc (fun r_22 u t H1 locs ht hvm hw hB hz1 hk1 hS => ?_)
  obtain ⟨hP, hD⟩ := va_join (wr := []) (w1 := []) hP hD [0, 1] [] rfl rfl (by decide) (by decide) hk1 hFc nilP nilD
  clear hPc hDc hKc hFc
  generalize H1 = H at hP hS ⊢
  have hP : va_P (dC, dI) vwCl [] H := hP
  have hD : va_D (fun q : Nat => s.heap.size ≤ q) [] := hD
  have hw : r_22 = (-6) := hw
  subst hw
  refine lv_icmp_eq (tgt := 1677) hx hb dL_law_1672 (by decide) (fun c_23 => ?_) (fun c_23 => absurd (by decide) c_23)
  exact law_tail C0 hS (lv_sub hl [0, 3] rfl)

set_option maxHeartbeats 4000000 in
set_option maxRecDepth 100000 in
theorem law_paste33 {p : Program} {l : Launch} {e : Env} {s : State} {m : MethodId} {below : List Frame} {meth : Method} {c : Code} {dC : Nat → ClassId} {dI : Nat → Nat → Nat} {b : Nat} {xs : Nat → Int32} {H : Heap} {locs : List Loc} {ls : Array Slot} {x_tape : Nat} {x_reader : Nat} {x_current : Nat} {x_images : Nat} {x_kept : Nat} {x_slots : Nat} {x_diary : Nat} {x_base : Nat} {x_trial : Nat} {x_plan : Nat} {x_orders : Nat} {x_unanswered : Nat} {s0 : Nat} {s1 : Nat} {s2 : Nat} {s3 : Nat} {y3 : Nat} {zk : ClassId} {m_width : Nat} {m_many : Nat} {m_cells : Nat} {m_moved : Nat} {m_tape : Nat} {m_lines : Nat} {m_has : Nat} {m_person : Nat} {m_letter : Nat} {m_isKept : Nat} {m_more : Nat} {m_came : Nat} {m_answered : Nat} {m_left : Nat} {m_leftOn : Nat} {m_isBurnt : Nat} {m_heard : Nat} {m_waitsOn : Nat} {m_idleOn : Nat} {m_row : Nat} {m_key : Nat} {m_coming : Nat} {m_tried : Nat} {m_bestOrder : Nat} {m_before : Nat} {m_open : Nat} {mk_width : ClassId} {xq : Nat} {mq : Nat} (C0 : lw_At p s m meth c b 6 xs) (h1 : xs 1 = 3) (h3 : xs 3 = 3) (hK : va_K (dC, dI) vwCl [(zk, .object RX5), (mk_width, .int)] s) (hP : va_P (dC, dI) vwCl [(xq, .inr (8, [.ref x_tape, .ref x_reader, .ref x_current, .ref x_images, .ref x_kept, .ref x_slots, .ref x_diary, .ref x_base, .ref x_trial, .ref x_plan, .ref x_orders, .ref x_unanswered, .int 0, .int 0, .int (-1)])), (x_slots, .inl (zk, 4, .inr (.inr (.inr (.inr (va_up (va_up (va_up (va_up (fun _ => none) 0 (some s0)) 1 (some s1)) 2 (some s2)) 3 (some s3))))))), (s3, .inr (5, [.ref y3, .int 0, .int 0, .int 0])), (mq, .inr (9, [.int 0, .ref m_width, .ref m_many, .ref m_cells, .ref m_moved, .ref m_tape, .int 0, .int 0, .int 0, .int 0, .int 0, .long 0, .int 0, .int 0, .int 0, .int (-1), .ref m_lines, .ref m_has, .ref m_person, .ref m_letter, .int 0, .ref m_isKept, .ref m_more, .int 0, .ref m_came, .ref m_answered, .ref m_left, .ref m_leftOn, .ref m_isBurnt, .ref m_heard, .ref m_waitsOn, .ref m_idleOn, .ref m_row, .int 0, .int 0, .long 0, .ref m_key, .int 0, .int 0, .int 0, .int 0, .int 0, .int 0, .int 0, .int 0, .ref m_coming, .int 0, .ref m_tried, .ref m_bestOrder, .int 0, .int 0, .ref m_before, .int 0, .ref m_open])), (m_width, .inl (mk_width, 4, .inl (upd (upd (upd (upd (fun _ => 0) 0 (-1)) 1 (-1)) 2 (-1)) 3 (-1))))] H) (hD : va_D (fun q : Nat => s.heap.size ≤ q) [(xq, .inr (8, [.ref x_tape, .ref x_reader, .ref x_current, .ref x_images, .ref x_kept, .ref x_slots, .ref x_diary, .ref x_base, .ref x_trial, .ref x_plan, .ref x_orders, .ref x_unanswered, .int 0, .int 0, .int (-1)])), (x_slots, .inl (zk, 4, .inr (.inr (.inr (.inr (va_up (va_up (va_up (va_up (fun _ => none) 0 (some s0)) 1 (some s1)) 2 (some s2)) 3 (some s3))))))), (s3, .inr (5, [.ref y3, .int 0, .int 0, .int 0])), (mq, .inr (9, [.int 0, .ref m_width, .ref m_many, .ref m_cells, .ref m_moved, .ref m_tape, .int 0, .int 0, .int 0, .int 0, .int 0, .long 0, .int 0, .int 0, .int 0, .int (-1), .ref m_lines, .ref m_has, .ref m_person, .ref m_letter, .int 0, .ref m_isKept, .ref m_more, .int 0, .ref m_came, .ref m_answered, .ref m_left, .ref m_leftOn, .ref m_isBurnt, .ref m_heard, .ref m_waitsOn, .ref m_idleOn, .ref m_row, .int 0, .int 0, .long 0, .ref m_key, .int 0, .int 0, .int 0, .int 0, .int 0, .int 0, .int 0, .int 0, .ref m_coming, .int 0, .ref m_tried, .ref m_bestOrder, .int 0, .int 0, .ref m_before, .int 0, .ref m_open])), (m_width, .inl (mk_width, 4, .inl (upd (upd (upd (upd (fun _ => 0) 0 (-1)) 1 (-1)) 2 (-1)) 3 (-1))))]) (hS : va_S (fun q : Nat => s.heap.size ≤ q) s.heap H locs) (hl : lv_has ls 4 [(3, .int 0), (2, .ref mq), (1, .ref xq), (0, .ref b)]) : W p l e room_1 s m #[Value.ref b] below meth c H locs 144 16687 (lw_Z below #[Value.ref b] s) (F0 m 1614 ls []) := by
  obtain ⟨hx, hb, hr, hml, hown, hts0, hX, hbl, hlocks, hgv⟩ := id C0
  have hts : ∀ w ∈ ALLW, w.before #[Value.ref b] s = true := fun w h => hts0 w (inT w h)
  have hA : ∀ q : Nat, s.heap.size ≤ q → (fun q : Nat => s.heap.size ≤ q) q := fun _ h => h
  have hbA : ¬ (fun q : Nat => s.heap.size ≤ q) b := Nat.not_le.mpr hbl
  refine lv_aload_n hx hb dL_law_1614 rfl (lv_at hl 2 rfl) ?_
  refine lv_aload_n hx hb dL_law_1615 rfl (lv_at hl 3 rfl) ?_
  refine lv_iload_n hx hb dL_law_1616 rfl (lv_at hl 0 rfl) ?_
  refine lv_iconst (v := 1) hx hb dL_law_1617 (by decide) ?_
  refine lv_iadd hx hb dL_law_1618 ?_
  refine lv_topi (fun x_1 ex_1 => ?_)
  obtain rfl : x_1 = 1 := ex_1.trans (by decide +kernel)
  refine va_sld hx hb hX hbl hbA hS (show vp_in 1 6 from (by unfold vp_in; decide)) dL_law_1619 ?_
  refine lv_topi (fun x_2 ex_2 => ?_)
  obtain rfl : x_2 = 3 := ex_2.trans ((congrArg xs (by decide)).trans h1)
  refine lv_aload_n hx hb dL_law_1620 rfl (lv_at hl 3 rfl) ?_
  refine lv_iload_n hx hb dL_law_1621 rfl (lv_at hl 0 rfl) ?_
  refine lv_iconst (v := 2) hx hb dL_law_1622 (by decide) ?_
  refine lv_iadd hx hb dL_law_1623 ?_
  refine lv_topi (fun x_3 ex_3 => ?_)
  obtain rfl : x_3 = 2 := ex_3.trans (by decide +kernel)
  refine va_sld hx hb hX hbl hbA hS (show vp_in 2 6 from (by unfold vp_in; decide)) dL_law_1624 ?_
  refine lv_topi (fun x_4 ex_4 => ?_)
  obtain rfl : x_4 = xs 2 := ex_4.trans (congrArg xs (by decide))
  refine lv_aload_n hx hb dL_law_1625 rfl (lv_at hl 3 rfl) ?_
  refine lv_iload_n hx hb dL_law_1626 rfl (lv_at hl 0 rfl) ?_
  refine lv_iconst (v := 3) hx hb dL_law_1627 (by decide) ?_
  refine lv_iadd hx hb dL_law_1628 ?_
  refine lv_topi (fun x_5 ex_5 => ?_)
  obtain rfl : x_5 = 3 := ex_5.trans (by decide +kernel)
  refine va_sld hx hb hX hbl hbA hS (show vp_in 3 6 from (by unfold vp_in; decide)) dL_law_1629 ?_
  refine lv_topi (fun x_6 ex_6 => ?_)
  obtain rfl : x_6 = 3 := ex_6.trans ((congrArg xs (by decide)).trans h3)
  refine lv_aload_n hx hb dL_law_1630 rfl (lv_at hl 3 rfl) ?_
  refine lv_iload_n hx hb dL_law_1631 rfl (lv_at hl 0 rfl) ?_
  refine lv_iconst (v := 4) hx hb dL_law_1632 (by decide) ?_
  refine lv_iadd hx hb dL_law_1633 ?_
  refine lv_topi (fun x_7 ex_7 => ?_)
  obtain rfl : x_7 = 4 := ex_7.trans (by decide +kernel)
  refine va_sld hx hb hX hbl hbA hS (show vp_in 4 6 from (by unfold vp_in; decide)) dL_law_1634 ?_
  refine lv_topi (fun x_8 ex_8 => ?_)
  obtain rfl : x_8 = xs 4 := ex_8.trans (congrArg xs (by decide))
  refine lv_aload_n hx hb dL_law_1635 rfl (lv_at hl 3 rfl) ?_
  refine lv_iload_n hx hb dL_law_1636 rfl (lv_at hl 0 rfl) ?_
  refine lv_iconst (v := 5) hx hb dL_law_1637 (by decide) ?_
  refine lv_iadd hx hb dL_law_1638 ?_
  refine lv_topi (fun x_9 ex_9 => ?_)
  obtain rfl : x_9 = 5 := ex_9.trans (by decide +kernel)
  refine va_sld hx hb hX hbl hbA hS (show vp_in 5 6 from (by unfold vp_in; decide)) dL_law_1639 ?_
  refine lv_topi (fun x_10 ex_10 => ?_)
  obtain rfl : x_10 = xs 5 := ex_10.trans (congrArg xs (by decide))
  have hPc := hP.sub (ws' := [(xq, .inr (8, [.ref x_tape, .ref x_reader, .ref x_current, .ref x_images, .ref x_kept, .ref x_slots, .ref x_diary, .ref x_base, .ref x_trial, .ref x_plan, .ref x_orders, .ref x_unanswered, .int 0, .int 0, .int (-1)])), (x_slots, .inl (zk, 4, .inr (.inr (.inr (.inr (va_up (va_up (va_up (va_up (fun _ => none) 0 (some s0)) 1 (some s1)) 2 (some s2)) 3 (some s3))))))), (s3, .inr (5, [.ref y3, .int 0, .int 0, .int 0]))]) [0, 1, 2] rfl
  have hDc := hD.sub (ws' := [(xq, .inr (8, [.ref x_tape, .ref x_reader, .ref x_current, .ref x_images, .ref x_kept, .ref x_slots, .ref x_diary, .ref x_base, .ref x_trial, .ref x_plan, .ref x_orders, .ref x_unanswered, .int 0, .int 0, .int (-1)])), (x_slots, .inl (zk, 4, .inr (.inr (.inr (.inr (va_up (va_up (va_up (va_up (fun _ => none) 0 (some s0)) 1 (some s1)) 2 (some s2)) 3 (some s3))))))), (s3, .inr (5, [.ref y3, .int 0, .int 0, .int 0]))]) [0, 1, 2] (by decide) rfl
  have hKc := hK.sub (tys' := [(zk, .object RX5)]) [0] rfl
  have hFc := va_free (wc := [(xq, .inr (8, [.ref x_tape, .ref x_reader, .ref x_current, .ref x_images, .ref x_kept, .ref x_slots, .ref x_diary, .ref x_base, .ref x_trial, .ref x_plan, .ref x_orders, .ref x_unanswered, .int 0, .int 0, .int (-1)])), (x_slots, .inl (zk, 4, .inr (.inr (.inr (.inr (va_up (va_up (va_up (va_up (fun _ => none) 0 (some s0)) 1 (some s1)) 2 (some s2)) 3 (some s3))))))), (s3, .inr (5, [.ref y3, .int 0, .int 0, .int 0]))]) hD hS hA [0, 1, 2] rfl
  refine va_calli (va_runV (As := [.int 3, .int (xs 2), .int 3, .int (xs 4), .int (xs 5)]) (rest := []) ⟨hx, hb, hml, hown, hts⟩ (x_paste33 l dC dI H.size xq x_tape x_reader x_current x_images x_kept x_slots x_diary x_base x_trial x_plan x_orders x_unanswered s0 s1 s2 s3 0 0 0 y3 zk ((xs 2)) ((xs 4)) ((xs 5)) ) (cwV 5 hts (goodV w_1358 w_1359 w_1360 w_2 w_1361) rfl rfl rfl hdV_X8_paste ⟨Nat.le_of_ble_eq_true rfl, Nat.le_of_ble_eq_true rfl⟩) ⟨fun a U g mk q => by obtain ⟨q0, q1, qP, qK, qD⟩ := q; exact ⟨q0, q1, qP, va_K.moved (u := U) (U := U.calling g mk a) (Vm.Alike.refl U.vm) qK, qD⟩, va_recv hKc hPc (ci := 8) (q0 := 0) rfl rfl, fun U hU hW => ⟨rfl, by rw [hU], by rw [hU]; exact hPc, va_K.moved hW.alike hKc, hDc.weaken (fun _ _ _ _ => trivial)⟩⟩ rfl rfl hl.1 rfl (lv_room (Nat.le_of_ble_eq_true rfl)) dL_law_1640 ⟨Nat.le_of_ble_eq_true rfl, Nat.le_of_ble_eq_true rfl⟩) hS (fun q _ h => hFc q h) hFc (fun r_11 u t H1 locs ht hvm hw hB hz1 hk1 hS => ?_)
  obtain ⟨hP, hD⟩ := va_join (wr := [(mq, .inr (9, [.int 0, .ref m_width, .ref m_many, .ref m_cells, .ref m_moved, .ref m_tape, .int 0, .int 0, .int 0, .int 0, .int 0, .long 0, .int 0, .int 0, .int 0, .int (-1), .ref m_lines, .ref m_has, .ref m_person, .ref m_letter, .int 0, .ref m_isKept, .ref m_more, .int 0, .ref m_came, .ref m_answered, .ref m_left, .ref m_leftOn, .ref m_isBurnt, .ref m_heard, .ref m_waitsOn, .ref m_idleOn, .ref m_row, .int 0, .int 0, .long 0, .ref m_key, .int 0, .int 0, .int 0, .int 0, .int 0, .int 0, .int 0, .int 0, .ref m_coming, .int 0, .ref m_tried, .ref m_bestOrder, .int 0, .int 0, .ref m_before, .int 0, .ref m_open])), (m_width, .inl (mk_width, 4, .inl (upd (upd (upd (upd (fun _ => 0) 0 (-1)) 1 (-1)) 2 (-1)) 3 (-1))))]) (w1 := []) hP hD [0, 1, 2] [3, 4] rfl rfl (by decide) (by decide) hk1 hFc nilP nilD
  clear hPc hDc hKc hFc
  generalize H1 = H at hP hS ⊢
  have hP : va_P (dC, dI) vwCl [(mq, .inr (9, [.int 0, .ref m_width, .ref m_many, .ref m_cells, .ref m_moved, .ref m_tape, .int 0, .int 0, .int 0, .int 0, .int 0, .long 0, .int 0, .int 0, .int 0, .int (-1), .ref m_lines, .ref m_has, .ref m_person, .ref m_letter, .int 0, .ref m_isKept, .ref m_more, .int 0, .ref m_came, .ref m_answered, .ref m_left, .ref m_leftOn, .ref m_isBurnt, .ref m_heard, .ref m_waitsOn, .ref m_idleOn, .ref m_row, .int 0, .int 0, .long 0, .ref m_key, .int 0, .int 0, .int 0, .int 0, .int 0, .int 0, .int 0, .int 0, .ref m_coming, .int 0, .ref m_tried, .ref m_bestOrder, .int 0, .int 0, .ref m_before, .int 0, .ref m_open])), (m_width, .inl (mk_width, 4, .inl (upd (upd (upd (upd (fun _ => 0) 0 (-1)) 1 (-1)) 2 (-1)) 3 (-1))))] H := hP
  have hD : va_D (fun q : Nat => s.heap.size ≤ q) [(mq, .inr (9, [.int 0, .ref m_width, .ref m_many, .ref m_cells, .ref m_moved, .ref m_tape, .int 0, .int 0, .int 0, .int 0, .int 0, .long 0, .int 0, .int 0, .int 0, .int (-1), .ref m_lines, .ref m_has, .ref m_person, .ref m_letter, .int 0, .ref m_isKept, .ref m_more, .int 0, .ref m_came, .ref m_answered, .ref m_left, .ref m_leftOn, .ref m_isBurnt, .ref m_heard, .ref m_waitsOn, .ref m_idleOn, .ref m_row, .int 0, .int 0, .long 0, .ref m_key, .int 0, .int 0, .int 0, .int 0, .int 0, .int 0, .int 0, .int 0, .ref m_coming, .int 0, .ref m_tried, .ref m_bestOrder, .int 0, .int 0, .ref m_before, .int 0, .ref m_open])), (m_width, .inl (mk_width, 4, .inl (upd (upd (upd (upd (fun _ => 0) 0 (-1)) 1 (-1)) 2 (-1)) 3 (-1))))] := hD
  have hw : r_11 = (-6) := hw
  subst hw
  refine lv_aload_n hx hb dL_law_1643 rfl (lv_at hl 1 rfl) ?_
  refine lv_aload_n hx hb dL_law_1644 rfl (lv_at hl 3 rfl) ?_
  refine lv_iload_n hx hb dL_law_1645 rfl (lv_at hl 0 rfl) ?_
  refine lv_iconst (v := 1) hx hb dL_law_1646 (by decide) ?_
  refine lv_iadd hx hb dL_law_1647 ?_
  refine lv_topi (fun x_12 ex_12 => ?_)
  obtain rfl : x_12 = 1 := ex_12.trans (by decide +kernel)
  refine va_sld hx hb hX hbl hbA hS (show vp_in 1 6 from (by unfold vp_in; decide)) dL_law_1648 ?_
  refine lv_topi (fun x_13 ex_13 => ?_)
  obtain rfl : x_13 = 3 := ex_13.trans ((congrArg xs (by decide)).trans h1)
  refine lv_aload_n hx hb dL_law_1649 rfl (lv_at hl 3 rfl) ?_
  refine lv_iload_n hx hb dL_law_1650 rfl (lv_at hl 0 rfl) ?_
  refine lv_iconst (v := 2) hx hb dL_law_1651 (by decide) ?_
  refine lv_iadd hx hb dL_law_1652 ?_
  refine lv_topi (fun x_14 ex_14 => ?_)
  obtain rfl : x_14 = 2 := ex_14.trans (by decide +kernel)
  refine va_sld hx hb hX hbl hbA hS (show vp_in 2 6 from (by unfold vp_in; decide)) dL_law_1653 ?_
  refine lv_topi (fun x_15 ex_15 => ?_)
  obtain rfl : x_15 = xs 2 := ex_15.trans (congrArg xs (by decide))
  refine lv_aload_n hx hb dL_law_1654 rfl (lv_at hl 3 rfl) ?_
  refine lv_iload_n hx hb dL_law_1655 rfl (lv_at hl 0 rfl) ?_
  refine lv_iconst (v := 3) hx hb dL_law_1656 (by decide) ?_
  refine lv_iadd hx hb dL_law_1657 ?_
  refine lv_topi (fun x_16 ex_16 => ?_)
  obtain rfl : x_16 = 3 := ex_16.trans (by decide +kernel)
  refine va_sld hx hb hX hbl hbA hS (show vp_in 3 6 from (by unfold vp_in; decide)) dL_law_1658 ?_
  refine lv_topi (fun x_17 ex_17 => ?_)
  obtain rfl : x_17 = 3 := ex_17.trans ((congrArg xs (by decide)).trans h3)
  refine lv_aload_n hx hb dL_law_1659 rfl (lv_at hl 3 rfl) ?_
  refine lv_iload_n hx hb dL_law_1660 rfl (lv_at hl 0 rfl) ?_
  refine lv_iconst (v := 4) hx hb dL_law_1661 (by decide) ?_
  refine lv_iadd hx hb dL_law_1662 ?_
  refine lv_topi (fun x_18 ex_18 => ?_)
  obtain rfl : x_18 = 4 := ex_18.trans (by decide +kernel)
  refine va_sld hx hb hX hbl hbA hS (show vp_in 4 6 from (by unfold vp_in; decide)) dL_law_1663 ?_
  refine lv_topi (fun x_19 ex_19 => ?_)
  obtain rfl : x_19 = xs 4 := ex_19.trans (congrArg xs (by decide))
  refine lv_aload_n hx hb dL_law_1664 rfl (lv_at hl 3 rfl) ?_
  refine lv_iload_n hx hb dL_law_1665 rfl (lv_at hl 0 rfl) ?_
  refine lv_iconst (v := 5) hx hb dL_law_1666 (by decide) ?_
  refine lv_iadd hx hb dL_law_1667 ?_
  refine lv_topi (fun x_20 ex_20 => ?_)
  obtain rfl : x_20 = 5 := ex_20.trans (by decide +kernel)
  refine va_sld hx hb hX hbl hbA hS (show vp_in 5 6 from (by unfold vp_in; decide)) dL_law_1668 ?_
  refine lv_topi (fun x_21 ex_21 => ?_)
  obtain rfl : x_21 = xs 5 := ex_21.trans (congrArg xs (by decide))
  have hPc := hP.sub (ws' := [(mq, .inr (9, [.int 0, .ref m_width, .ref m_many, .ref m_cells, .ref m_moved, .ref m_tape, .int 0, .int 0, .int 0, .int 0, .int 0, .long 0, .int 0, .int 0, .int 0, .int (-1), .ref m_lines, .ref m_has, .ref m_person, .ref m_letter, .int 0, .ref m_isKept, .ref m_more, .int 0, .ref m_came, .ref m_answered, .ref m_left, .ref m_leftOn, .ref m_isBurnt, .ref m_heard, .ref m_waitsOn, .ref m_idleOn, .ref m_row, .int 0, .int 0, .long 0, .ref m_key, .int 0, .int 0, .int 0, .int 0, .int 0, .int 0, .int 0, .int 0, .ref m_coming, .int 0, .ref m_tried, .ref m_bestOrder, .int 0, .int 0, .ref m_before, .int 0, .ref m_open])), (m_width, .inl (mk_width, 4, .inl (upd (upd (upd (upd (fun _ => 0) 0 (-1)) 1 (-1)) 2 (-1)) 3 (-1))))]) [0, 1] rfl
  have hDc := hD.sub (ws' := [(mq, .inr (9, [.int 0, .ref m_width, .ref m_many, .ref m_cells, .ref m_moved, .ref m_tape, .int 0, .int 0, .int 0, .int 0, .int 0, .long 0, .int 0, .int 0, .int 0, .int (-1), .ref m_lines, .ref m_has, .ref m_person, .ref m_letter, .int 0, .ref m_isKept, .ref m_more, .int 0, .ref m_came, .ref m_answered, .ref m_left, .ref m_leftOn, .ref m_isBurnt, .ref m_heard, .ref m_waitsOn, .ref m_idleOn, .ref m_row, .int 0, .int 0, .long 0, .ref m_key, .int 0, .int 0, .int 0, .int 0, .int 0, .int 0, .int 0, .int 0, .ref m_coming, .int 0, .ref m_tried, .ref m_bestOrder, .int 0, .int 0, .ref m_before, .int 0, .ref m_open])), (m_width, .inl (mk_width, 4, .inl (upd (upd (upd (upd (fun _ => 0) 0 (-1)) 1 (-1)) 2 (-1)) 3 (-1))))]) [0, 1] (by decide) rfl
  have hKc := hK.sub (tys' := [(mk_width, .int)]) [1] rfl
  have hFc := va_free (wc := [(mq, .inr (9, [.int 0, .ref m_width, .ref m_many, .ref m_cells, .ref m_moved, .ref m_tape, .int 0, .int 0, .int 0, .int 0, .int 0, .long 0, .int 0, .int 0, .int 0, .int (-1), .ref m_lines, .ref m_has, .ref m_person, .ref m_letter, .int 0, .ref m_isKept, .ref m_more, .int 0, .ref m_came, .ref m_answered, .ref m_left, .ref m_leftOn, .ref m_isBurnt, .ref m_heard, .ref m_waitsOn, .ref m_idleOn, .ref m_row, .int 0, .int 0, .long 0, .ref m_key, .int 0, .int 0, .int 0, .int 0, .int 0, .int 0, .int 0, .int 0, .ref m_coming, .int 0, .ref m_tried, .ref m_bestOrder, .int 0, .int 0, .ref m_before, .int 0, .ref m_open])), (m_width, .inl (mk_width, 4, .inl (upd (upd (upd (upd (fun _ => 0) 0 (-1)) 1 (-1)) 2 (-1)) 3 (-1))))]) hD hS hA [0, 1] rfl
  refine va_calli (va_runV (As := [.int 3, .int (xs 2), .int 3, .int (xs 4), .int (xs 5)]) (rest := [.int (-6)]) ⟨hx, hb, hml, hown, hts⟩ (mc_paste33 l dC dI H.size mq m_width m_many m_cells m_moved m_tape m_lines m_has m_person m_letter m_isKept m_more m_came m_answered m_left m_leftOn m_isBurnt m_heard m_waitsOn m_idleOn m_row m_key m_coming m_tried m_bestOrder m_before m_open mk_width ((xs 2)) ((xs 4)) ((xs 5)) ) (cwV 5 hts (goodV w_1368 w_1369 w_1370 w_5 w_1371) rfl rfl rfl hdV_X9_paste ⟨Nat.le_of_ble_eq_true rfl, Nat.le_of_ble_eq_true rfl⟩) ⟨fun a U g mk q => by obtain ⟨q0, q1, qP, qK, qD⟩ := q; exact ⟨q0, q1, qP, va_K.moved (u := U) (U := U.calling g mk a) (Vm.Alike.refl U.vm) qK, qD⟩, va_recv hKc hPc (ci := 9) (q0 := 0) rfl rfl, fun U hU hW => ⟨rfl, by rw [hU], by rw [hU]; exact hPc, va_K.moved hW.alike hKc, hDc.weaken (fun _ _ _ _ => trivial)⟩⟩ rfl rfl hl.1 rfl (lv_room (Nat.le_of_ble_eq_true rfl)) dL_law_1669 ⟨Nat.le_of_ble_eq_true rfl, Nat.le_of_ble_eq_true rfl⟩) hS (fun q _ h => hFc q h) hFc (fun r_22 u t H1 locs ht hvm hw hB hz1 hk1 hS => ?_)
  obtain ⟨hP, hD⟩ := va_join (wr := []) (w1 := []) hP hD [0, 1] [] rfl rfl (by decide) (by decide) hk1 hFc nilP nilD
  clear hPc hDc hKc hFc
  generalize H1 = H at hP hS ⊢
  have hP : va_P (dC, dI) vwCl [] H := hP
  have hD : va_D (fun q : Nat => s.heap.size ≤ q) [] := hD
  have hw : r_22 = (-6) := hw
  subst hw
  refine lv_icmp_eq (tgt := 1677) hx hb dL_law_1672 (by decide) (fun c_23 => ?_) (fun c_23 => absurd (by decide) c_23)
  exact law_tail C0 hS (lv_sub hl [0, 3] rfl)
