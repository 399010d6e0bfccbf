set_option maxHeartbeats 40000000 in
set_option maxRecDepth 100000 in
theorem law_loop {pr_ : Program} {l : Launch} {en_ : Env} {s : State} {me_ : MethodId} {below : List Frame} {meth : Method} {c : Code} {dC : Nat → ClassId} {dI : Nat → Nat → Nat} {b L : Nat} {xs : Nat → Int32} {x m : Nat} {adK adV : Nat → Nat} (hL : L ≤ 3072) (C0 : lw_At pr_ s me_ meth c b L xs) (hE : strs adK adV (fun q : Nat => s.heap.size ≤ q) s) : ∀ (k : Nat) (i : Int32) (H : Heap) (locs : List Loc) (ls : Array Slot), (3078 - i.toInt).toNat < k → 0 ≤ i.toInt → i.toInt ≤ 3072 → Inv dC dI s x m H → va_S (fun q : Nat => s.heap.size ≤ q) s.heap H locs → lv_has ls 4 [(3, .int i), (2, .ref m), (1, .ref x), (0, .ref b)] → W pr_ l en_ room_1 s me_ #[Value.ref b] below meth c H locs 144 16687 (lw_Z below #[Value.ref b] s) (F0 me_ 18 ls []) := by
  obtain ⟨hx, hb, hr, hml, hown, hts0, hX, hbl, hlocks, hgv⟩ := id C0
  have hbA : ¬ (fun q : Nat => s.heap.size ≤ q) b := Nat.not_le.mpr hbl
  intro k
  induction k with
  | zero => intro i H locs ls h; exact absurd h (Nat.not_lt_zero _)
  | succ k ih =>
    intro i H locs ls hmu hi0 hi1 hInv hS hl
    refine lv_iload_n hx hb dL_law_18 rfl (lv_at hl 0 rfl) ?_
    refine lv_aload_n hx hb dL_law_19 rfl (lv_at hl 3 rfl) ?_
    refine va_slen hx hb hX hbl hbA hS dL_law_20 ?_
    refine lv_topi (fun x_1 ex_1 => ?_)
    refine lv_bipush (v := 6) hx hb dL_law_21 (by decide) ?_
    refine lv_isub hx hb dL_law_23 ?_
    refine lv_topi (fun x_2 ex_2 => ?_)
    have h1 : x_1.toInt = (L : Int) := by rw [ex_1]; exact nI_toInt (by omega)
    have h2 : x_2.toInt = (L : Int) - 6 := q_sub ex_2 h1 (by decide) (by omega) (by omega)
    refine lv_icmp_gt (tgt := 1682) hx hb dL_law_24 (by decide) (fun c_1 => ?_) (fun c_1 => ?_)
    · refine lv_iconst (v := 1) hx hb dL_law_1682 (by decide) ?_
      refine va_forget (fun q hq => hS.2.2 q hq) ?_
      refine W.widen (k := 600000) (n := 7302250) (by decide) (by decide) ?_
      exact lw_ret hx hb hr hlocks dL_law_1683
    · have hc := q_ngt (a := i.toInt) (b := x_2.toInt) rfl rfl c_1
      have hi6 : i.toInt + 6 ≤ (L : Int) := by omega
      refine lv_aload_n hx hb dL_law_27 rfl (lv_at hl 3 rfl) ?_
      refine lv_iload_n hx hb dL_law_28 rfl (lv_at hl 0 rfl) ?_
      refine va_sld hx hb hX hbl hbA hS (vp_in_iff.mpr ⟨by omega, by omega⟩) dL_law_29 ?_
      refine lv_bipush (v := 63) hx hb dL_law_30 (by decide) ?_
      refine lv_iand hx hb dL_law_32 ?_
      refine lv_topi (fun x_3 ex_3 => ?_)
      obtain ⟨j, hj, ej⟩ := pk_andE (xs i.toNatClampNeg) (m := 63) 6 (by decide)
      obtain rfl : x_3 = nI j := ex_3.trans ej
      clear ex_3 ej
      have hcont : ∀ (H : Heap) (locs : List Loc) (ls : Array Slot), Inv dC dI s x m H → va_S (fun q : Nat => s.heap.size ≤ q) s.heap H locs → lv_has ls 4 [(3, .int i), (2, .ref m), (1, .ref x), (0, .ref b)] → W pr_ l en_ room_1 s me_ #[Value.ref b] below meth c H locs 144 16687 (lw_Z below #[Value.ref b] s) (F0 me_ 1676 ls []) := fun H locs ls hInv hS hl => by
        obtain ⟨y, ey⟩ : ∃ y : Int32, y = i + Int32.ofInt (6) := ⟨_, rfl⟩
        have b_y := q_add (a := i.toInt) (b := 6) ey rfl (by decide) (by omega) (by omega)
        refine lv_iinc (v := y) (lv' := [(3, .int y), (2, .ref m), (1, .ref x), (0, .ref b)]) hx hb dL_law_1676 hl (k := 0) rfl ey.symm (by decide) rfl (fun ls hl => ?_)
        refine lv_goto (tgt := 18) hx hb dL_law_1679 (by decide) ?_
        exact ih y H locs ls (by omega) (by omega) (by omega) hInv hS hl
      rcases Nat.lt_or_ge j 44 with hj4 | hj4
      · rcases (show j = 0 ∨ j = 1 ∨ j = 2 ∨ j = 3 ∨ j = 4 ∨ j = 5 ∨ j = 6 ∨ j = 7 ∨ j = 8 ∨ j = 9 ∨ j = 10 ∨ j = 11 ∨ j = 12 ∨ j = 13 ∨ j = 14 ∨ j = 15 ∨ j = 16 ∨ j = 17 ∨ j = 18 ∨ j = 19 ∨ j = 20 ∨ j = 21 ∨ j = 22 ∨ j = 23 ∨ j = 24 ∨ j = 25 ∨ j = 26 ∨ j = 27 ∨ j = 28 ∨ j = 29 ∨ j = 30 ∨ j = 31 ∨ j = 32 ∨ j = 33 ∨ j = 34 ∨ j = 35 ∨ j = 36 ∨ j = 37 ∨ j = 38 ∨ j = 39 ∨ j = 40 ∨ j = 41 ∨ j = 42 ∨ j = 43 by omega) with rfl | rfl | rfl | rfl | rfl | rfl | rfl | rfl | rfl | rfl | rfl | rfl | rfl | rfl | rfl | rfl | rfl | rfl | rfl | rfl | rfl | rfl | rfl | rfl | rfl | rfl | rfl | rfl | rfl | rfl | rfl | rfl | rfl | rfl | rfl | rfl | rfl | rfl | rfl | rfl | rfl | rfl | rfl | rfl
        · refine law_sw_0 hx hb ?_
          exact op_feed hL C0 hi0 hi6 hInv hS hl hcont
        · refine law_sw_1 hx hb ?_
          exact op_end hL C0 hi0 hi6 hInv hS hl hcont
        · refine law_sw_2 hx hb ?_
          exact op_town (hE := hE) hL C0 hi0 hi6 hInv hS hl hcont
        · refine law_sw_3 hx hb ?_
          exact op_fault hL C0 hi0 hi6 hInv hS hl hcont
        · refine law_sw_4 hx hb ?_
          exact op_person hL C0 hi0 hi6 hInv hS hl hcont
        · refine law_sw_5 hx hb ?_
          exact op_letter hL C0 hi0 hi6 hInv hS hl hcont
        · refine law_sw_6 hx hb ?_
          exact op_hours hL C0 hi0 hi6 hInv hS hl hcont
        · refine law_sw_7 hx hb ?_
          exact op_law hL C0 hi0 hi6 hInv hS hl hcont
        · refine law_sw_8 hx hb ?_
          exact op_answered hL C0 hi0 hi6 hInv hS hl hcont
        · refine law_sw_9 hx hb ?_
          exact op_comes hL C0 hi0 hi6 hInv hS hl hcont
        · refine law_sw_10 hx hb ?_
          exact op_needs hL C0 hi0 hi6 hInv hS hl hcont
        · refine law_sw_11 hx hb ?_
          exact op_pile hL C0 hi0 hi6 hInv hS hl hcont
        · refine law_sw_12 hx hb ?_
          exact op_idle hL C0 hi0 hi6 hInv hS hl hcont
        · refine law_sw_13 hx hb ?_
          exact op_waits hL C0 hi0 hi6 hInv hS hl hcont
        · refine law_sw_14 hx hb ?_
          exact op_top hL C0 hi0 hi6 hInv hS hl hcont
        · refine law_sw_15 hx hb ?_
          exact op_under hL C0 hi0 hi6 hInv hS hl hcont
        · refine law_sw_16 hx hb ?_
          exact op_heard hL C0 hi0 hi6 hInv hS hl hcont
        · refine law_sw_17 hx hb ?_
          exact op_stuck hL C0 hi0 hi6 hInv hS hl hcont
        · refine law_sw_18 hx hb ?_
          exact op_ring hL C0 hi0 hi6 hInv hS hl hcont
        · refine law_sw_19 hx hb ?_
          exact op_worth hL C0 hi0 hi6 hInv hS hl hcont
        · refine law_sw_20 hx hb ?_
          exact op_late hL C0 hi0 hi6 hInv hS hl hcont
        · refine law_sw_21 hx hb ?_
          exact op_sum hL C0 hi0 hi6 hInv hS hl hcont
        · refine law_sw_22 hx hb ?_
          exact op_by hL C0 hi0 hi6 hInv hS hl hcont
        · refine law_sw_23 hx hb ?_
          exact op_best hL C0 hi0 hi6 hInv hS hl hcont
        · refine law_sw_24 hx hb ?_
          exact op_order hL C0 hi0 hi6 hInv hS hl hcont
        · refine law_sw_25 hx hb ?_
          exact op_place hL C0 hi0 hi6 hInv hS hl hcont
        · refine law_sw_26 hx hb ?_
          exact op_worst hL C0 hi0 hi6 hInv hS hl hcont
        · refine law_sw_27 hx hb ?_
          exact op_longest hL C0 hi0 hi6 hInv hS hl hcont
        · refine law_sw_28 hx hb ?_
          exact op_just hL C0 hi0 hi6 hInv hS hl hcont
        · refine law_sw_29 hx hb ?_
          exact op_stop hL C0 hi0 hi6 hInv hS hl hcont
        · refine law_sw_30 hx hb ?_
          exact op_hold hL C0 hi0 hi6 hInv hS hl hcont
        · refine law_sw_31 hx hb ?_
          exact op_visit hL C0 hi0 hi6 hInv hS hl hcont
        · refine law_sw_32 hx hb ?_
          exact op_pays hL C0 hi0 hi6 hInv hS hl hcont
        · refine law_sw_33 hx hb ?_
          exact op_instead hL C0 hi0 hi6 hInv hS hl hcont
        · refine law_sw_34 hx hb ?_
          exact op_burn hL C0 hi0 hi6 hInv hS hl hcont
        · refine law_sw_35 hx hb ?_
          exact op_untie hL C0 hi0 hi6 hInv hS hl hcont
        · refine law_sw_36 hx hb ?_
          exact op_chance hL C0 hi0 hi6 hInv hS hl hcont
        · refine law_sw_37 hx hb ?_
          exact op_judge hL C0 hi0 hi6 hInv hS hl hcont
        · refine law_sw_38 hx hb ?_
          exact op_count hL C0 hi0 hi6 hInv hS hl hcont
        · refine law_sw_39 hx hb ?_
          exact op_keep hL C0 hi0 hi6 hInv hS hl hcont
        · refine law_sw_40 hx hb ?_
          exact op_back hL C0 hi0 hi6 hInv hS hl hcont
        · refine law_sw_41 hx hb ?_
          exact op_row hL C0 hi0 hi6 hInv hS hl hcont
        · refine law_sw_42 hx hb ?_
          exact op_write hL C0 hi0 hi6 hInv hS hl hcont
        · refine law_sw_43 hx hb ?_
          exact op_paste hL C0 hi0 hi6 hInv hS hl hcont
      · refine lv_tableOut (tgt := 1676) hx hb dL_law_33 (Or.inr (by rw [nI_toInt (by omega)]; omega)) (by decide) ?_
        exact hcont H locs ls hInv hS hl
