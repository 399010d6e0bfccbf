def tmS (i : Nat) : Jvm.Term := Jvm.Term.string "OldestFirst$Reader" (ixS.getD i 0)
def vfS (i : Nat) : Jvm.Term := Jvm.Term.field (tmS i) "java/lang/String" "value" "[B"
def gvF : List Jvm.Cond := flatC (Jvm.Cond.and given_1 narrow_1)
def pxE : List Nat := [29, 37, 46, 56, 69, 82, 95, 110, 127, 146, 164, 184, 201, 219, 240, 263, 287, 309, 333, 361, 390, 421]
def pxC : List Nat := [30, 38, 47, 57, 70, 83, 96, 111, 128, 147, 165, 185, 202, 220, 241, 264, 288, 310, 334, 362, 391, 422]
def pxA : List Nat := [31, 39, 48, 58, 71, 84, 97, 112, 129, 148, 166, 186, 203, 221, 242, 265, 289, 311, 335, 363, 392, 423]
def pxL : List Nat := [32, 40, 49, 59, 72, 85, 98, 113, 130, 149, 167, 187, 204, 222, 243, 266, 290, 312, 336, 364, 393, 424]
def pxB : List (List Nat) := [[33, 34, 35, 36], [41, 42, 43, 44], [50, 51, 52, 53], [60, 61, 62, 63, 64, 65], [73, 74, 75, 76, 77], [86, 87, 88, 89], [99, 100, 101, 102, 103], [114, 115, 116, 117, 118, 119], [131, 132, 133, 134, 135, 136, 137], [150, 151, 152, 153, 154], [168, 169, 170, 171, 172, 173], [188, 189], [205, 206], [223, 224, 225, 226], [244, 245, 246, 247, 248], [267, 268, 269, 270, 271], [291, 292], [313, 314, 315], [337, 338, 339, 340, 341, 342], [365, 366, 367, 368, 369, 370], [394, 395, 396, 397, 398, 399, 400], [425, 426, 427]]
def pxN : List (List Nat) := [[], [45], [54, 55], [66, 67, 68], [78, 79, 80, 81], [90, 91, 92, 93, 94], [104, 105, 106, 107, 108, 109], [120, 121, 122, 123, 124, 125, 126], [138, 139, 140, 141, 142, 143, 144, 145], [155, 156, 157, 158, 159, 160, 161, 162, 163], [174, 175, 176, 177, 178, 179, 180, 181, 182, 183], [190, 191, 192, 193, 194, 195, 196, 197, 198, 199, 200], [207, 208, 209, 210, 211, 212, 213, 214, 215, 216, 217, 218], [227, 228, 229, 230, 231, 232, 233, 234, 235, 236, 237, 238, 239], [249, 250, 251, 252, 253, 254, 255, 256, 257, 258, 259, 260, 261, 262], [272, 273, 274, 275, 276, 277, 278, 279, 280, 281, 282, 283, 284, 285, 286], [293, 294, 295, 296, 297, 298, 299, 300, 301, 302, 303, 304, 305, 306, 307, 308], [316, 317, 318, 319, 320, 321, 322, 323, 324, 325, 326, 327, 328, 329, 330, 331, 332], [343, 344, 345, 346, 347, 348, 349, 350, 351, 352, 353, 354, 355, 356, 357, 358, 359, 360], [371, 372, 373, 374, 375, 376, 377, 378, 379, 380, 381, 382, 383, 384, 385, 386, 387, 388, 389], [401, 402, 403, 404, 405, 406, 407, 408, 409, 410, 411, 412, 413, 414, 415, 416, 417, 418, 419, 420], [428, 429, 430, 431, 432, 433, 434, 435, 436, 437, 438, 439, 440, 441, 442, 443, 444, 445, 446, 447, 448]]
set_option maxHeartbeats 40000000 in
set_option maxRecDepth 100000 in
theorem sx_E : ∀ i, i < 22 → gvF[pxE.getD i 0]? = some (Jvm.Cond.exactly (tmS i) "java/lang/String") := by decide +kernel
set_option maxHeartbeats 40000000 in
set_option maxRecDepth 100000 in
theorem sx_C : ∀ i, i < 22 → gvF[pxC.getD i 0]? = some (Jvm.Cond.eq (.field (tmS i) "java/lang/String" "coder" "B") (.int 0)) := by decide +kernel
set_option maxHeartbeats 40000000 in
set_option maxRecDepth 100000 in
theorem sx_A : ∀ i, i < 22 → gvF[pxA.getD i 0]? = some (Jvm.Cond.arrayOf (.field (tmS i) "java/lang/String" "value" "[B") .byte) := by decide +kernel
set_option maxHeartbeats 40000000 in
set_option maxRecDepth 100000 in
theorem sx_L : ∀ i, i < 22 → gvF[pxL.getD i 0]? = some (Jvm.Cond.eq (.length (.field (tmS i) "java/lang/String" "value" "[B")) (.int (Int32.ofNat (lenS.getD i 0)))) := by decide +kernel
set_option maxHeartbeats 40000000 in
set_option maxRecDepth 100000 in
theorem sx_B : ∀ i, i < 22 → ∀ j, j < lenS.getD i 0 → gvF[(pxB.getD i []).getD j 0]? = some (Jvm.Cond.eq (.elem (.field (tmS i) "java/lang/String" "value" "[B") (.int (Int32.ofNat j))) (.int ((bytS.getD i []).getD j 0))) := by decide +kernel
set_option maxHeartbeats 40000000 in
set_option maxRecDepth 100000 in
theorem sx_N : ∀ j, j < 22 → ∀ i, i < j → gvF[(pxN.getD j []).getD i 0]? = some (Jvm.Cond.not (Jvm.Cond.eq (tmS i) (tmS j))) ∨ gvF[(pxN.getD j []).getD i 0]? = some (Jvm.Cond.not (Jvm.Cond.eq (tmS j) (tmS i))) := by decide +kernel
set_option maxHeartbeats 40000000 in
set_option maxRecDepth 100000 in
theorem sx_Z : gvF[4]? = some (Jvm.Cond.eq (.static "java/lang/String" "COMPACT_STRINGS" "Z") (.int 1)) ∧ gvF[5]? = some (Jvm.Cond.isRef (.static "jdk/internal/util/Preconditions" "SIOOBE_FORMATTER" "Ljava/util/function/BiFunction;")) := by decide +kernel
set_option maxHeartbeats 40000000 in
set_option maxRecDepth 100000 in
theorem law_strs {s : State} {b : Nat} (hgv : (Jvm.Cond.and given_1 narrow_1).before #[Value.ref b] s = true) (hts0 : ∀ w ∈ lw_tbl, w.before #[Value.ref b] s = true) : ∃ adK adV : Nat → Nat, strs adK adV (fun q : Nat => s.heap.size ≤ q) s := by
  have hs := flat_of_before _ hgv
  have hm : ∀ {n : Nat} {c : Jvm.Cond}, gvF[n]? = some c → c.before #[Value.ref b] s = true := fun h => hs _ (List.mem_of_getElem? h)
  have hA : ∀ a : Nat, a < s.heap.size → ¬ (fun q : Nat => s.heap.size ≤ q) a := fun a h => Nat.not_le.mpr h
  have hN : ∀ i j : Nat, i < j → j < 22 → (Jvm.Cond.not (Jvm.Cond.eq (tmS i) (tmS j))).before #[Value.ref b] s = true ∨ (Jvm.Cond.not (Jvm.Cond.eq (tmS j) (tmS i))).before #[Value.ref b] s = true := fun i j h hj => (sx_N j hj i h).imp (fun q => hm q) (fun q => hm q)
  obtain ⟨adK, adV, h1, h2⟩ := vk_Sof (args := #[Value.ref b]) (s := s) (N := 22) (tm := tmS) (len := lenS) (byt := bytS) (A := (fun q : Nat => s.heap.size ≤ q)) (fun i hi => Nat.lt_of_le_of_lt (len_b i hi) (by decide)) (fun i hi => hm (sx_E i hi)) (fun i hi => hm (sx_C i hi)) (fun i hi => hm (sx_A i hi)) (fun i hi => hm (sx_L i hi)) (fun i hi j hj => hm (sx_B i hi j hj)) (fun i j hi hj hij => by
    rcases Nat.lt_or_gt_of_ne hij with h | h
    · exact hN i j h hj
    · exact (hN j i h hi).symm) hA
  refine ⟨adK, adV, h1, va_Zof (args := #[Value.ref b]) (hts0 (.laysStatic "java/lang/String" "COMPACT_STRINGS" "Z") (List.mem_append_right _ (List.mem_append_right _ (List.mem_append_right _ (List.mem_append_left _ (List.mem_of_getElem? (i := 40) rfl)))))) (hts0 (.initialized "java/lang/String") (List.mem_append_right _ (List.mem_append_left _ (List.mem_of_getElem? (i := 13) rfl)))) (va_eqt (hm sx_Z.1)) hA, va_Zqof (args := #[Value.ref b]) (hts0 (.laysStatic "jdk/internal/util/Preconditions" "SIOOBE_FORMATTER" "Ljava/util/function/BiFunction;") (List.mem_append_right _ (List.mem_append_right _ (List.mem_append_right _ (List.mem_append_left _ (List.mem_of_getElem? (i := 56) rfl)))))) (hts0 (.initialized "jdk/internal/util/Preconditions") (List.mem_append_right _ (List.mem_append_left _ (List.mem_of_getElem? (i := 15) rfl)))) (hm sx_Z.2) hA, ?_⟩
  intro i hi
  match i, hi with
  | 0, hi => exact vk_R.of (A := #[Value.ref b]) (hts0 (.stringRef "OldestFirst$Reader" 82 "town") (List.mem_append_right _ (List.mem_append_right _ (List.mem_append_right _ (List.mem_append_left _ (List.mem_of_getElem? (i := 22) rfl)))))) (h2 0 hi)
  | 1, hi => exact vk_R.of (A := #[Value.ref b]) (hts0 (.stringRef "OldestFirst$Reader" 86 "days") (List.mem_append_right _ (List.mem_append_right _ (List.mem_append_right _ (List.mem_append_left _ (List.mem_of_getElem? (i := 83) rfl)))))) (h2 1 hi)
  | 2, hi => exact vk_R.of (A := #[Value.ref b]) (hts0 (.stringRef "OldestFirst$Reader" 94 "post") (List.mem_append_right _ (List.mem_append_right _ (List.mem_append_right _ (List.mem_append_left _ (List.mem_of_getElem? (i := 88) rfl)))))) (h2 2 hi)
  | 3, hi => exact vk_R.of (A := #[Value.ref b]) (hts0 (.stringRef "OldestFirst$Reader" 63 "person") (List.mem_append_right _ (List.mem_append_right _ (List.mem_append_right _ (List.mem_append_left _ (List.mem_of_getElem? (i := 89) rfl)))))) (h2 3 hi)
  | 4, hi => exact vk_R.of (A := #[Value.ref b]) (hts0 (.stringRef "OldestFirst$Reader" 104 "hours") (List.mem_append_right _ (List.mem_append_right _ (List.mem_append_right _ (List.mem_append_left _ (List.mem_of_getElem? (i := 94) rfl)))))) (h2 4 hi)
  | 5, hi => exact vk_R.of (A := #[Value.ref b]) (hts0 (.stringRef "OldestFirst$Reader" 119 "full") (List.mem_append_right _ (List.mem_append_right _ (List.mem_append_right _ (List.mem_append_left _ (List.mem_of_getElem? (i := 99) rfl)))))) (h2 5 hi)
  | 6, hi => exact vk_R.of (A := #[Value.ref b]) (hts0 (.stringRef "OldestFirst$Reader" 121 "short") (List.mem_append_right _ (List.mem_append_right _ (List.mem_append_right _ (List.mem_append_left _ (List.mem_of_getElem? (i := 100) rfl)))))) (h2 6 hi)
  | 7, hi => exact vk_R.of (A := #[Value.ref b]) (hts0 (.stringRef "OldestFirst$Reader" 123 "sunday") (List.mem_append_right _ (List.mem_append_right _ (List.mem_append_right _ (List.mem_append_left _ (List.mem_of_getElem? (i := 101) rfl)))))) (h2 7 hi)
  | 8, hi => exact vk_R.of (A := #[Value.ref b]) (hts0 (.stringRef "OldestFirst$Reader" 125 "worrier") (List.mem_append_right _ (List.mem_append_right _ (List.mem_append_right _ (List.mem_append_left _ (List.mem_of_getElem? (i := 102) rfl)))))) (h2 8 hi)
  | 9, hi => exact vk_R.of (A := #[Value.ref b]) (hts0 (.stringRef "OldestFirst$Reader" 127 "clerk") (List.mem_append_right _ (List.mem_append_right _ (List.mem_append_right _ (List.mem_append_left _ (List.mem_of_getElem? (i := 103) rfl)))))) (h2 9 hi)
  | 10, hi => exact vk_R.of (A := #[Value.ref b]) (hts0 (.stringRef "OldestFirst$Reader" 72 "letter") (List.mem_append_right _ (List.mem_append_right _ (List.mem_append_right _ (List.mem_append_left _ (List.mem_of_getElem? (i := 104) rfl)))))) (h2 10 hi)
  | 11, hi => exact vk_R.of (A := #[Value.ref b]) (hts0 (.stringRef "OldestFirst$Reader" 138 "to") (List.mem_append_right _ (List.mem_append_right _ (List.mem_append_right _ (List.mem_append_left _ (List.mem_of_getElem? (i := 113) rfl)))))) (h2 11 hi)
  | 12, hi => exact vk_R.of (A := #[Value.ref b]) (hts0 (.stringRef "OldestFirst$Reader" 142 "on") (List.mem_append_right _ (List.mem_append_right _ (List.mem_append_right _ (List.mem_append_left _ (List.mem_of_getElem? (i := 114) rfl)))))) (h2 12 hi)
  | 13, hi => exact vk_R.of (A := #[Value.ref b]) (hts0 (.stringRef "OldestFirst$Reader" 152 "back") (List.mem_append_right _ (List.mem_append_right _ (List.mem_append_right _ (List.mem_append_left _ (List.mem_of_getElem? (i := 119) rfl)))))) (h2 13 hi)
  | 14, hi => exact vk_R.of (A := #[Value.ref b]) (hts0 (.stringRef "OldestFirst$Reader" 158 "after") (List.mem_append_right _ (List.mem_append_right _ (List.mem_append_right _ (List.mem_append_left _ (List.mem_of_getElem? (i := 124) rfl)))))) (h2 14 hi)
  | 15, hi => exact vk_R.of (A := #[Value.ref b]) (hts0 (.stringRef "OldestFirst$Reader" 162 "worth") (List.mem_append_right _ (List.mem_append_right _ (List.mem_append_right _ (List.mem_append_left _ (List.mem_of_getElem? (i := 125) rfl)))))) (h2 15 hi)
  | 16, hi => exact vk_R.of (A := #[Value.ref b]) (hts0 (.stringRef "OldestFirst$Reader" 166 "by") (List.mem_append_right _ (List.mem_append_right _ (List.mem_append_right _ (List.mem_append_left _ (List.mem_of_getElem? (i := 126) rfl)))))) (h2 16 hi)
  | 17, hi => exact vk_R.of (A := #[Value.ref b]) (hts0 (.stringRef "OldestFirst$Reader" 77 "law") (List.mem_append_right _ (List.mem_append_right _ (List.mem_append_right _ (List.mem_append_left _ (List.mem_of_getElem? (i := 127) rfl)))))) (h2 17 hi)
  | 18, hi => exact vk_R.of (A := #[Value.ref b]) (hts0 (.stringRef "OldestFirst$Reader" 179 "oldest") (List.mem_append_right _ (List.mem_append_right _ (List.mem_append_right _ (List.mem_append_left _ (List.mem_of_getElem? (i := 136) rfl)))))) (h2 18 hi)
  | 19, hi => exact vk_R.of (A := #[Value.ref b]) (hts0 (.stringRef "OldestFirst$Reader" 181 "newest") (List.mem_append_right _ (List.mem_append_right _ (List.mem_append_right _ (List.mem_append_left _ (List.mem_of_getElem? (i := 137) rfl)))))) (h2 19 hi)
  | 20, hi => exact vk_R.of (A := #[Value.ref b]) (hts0 (.stringRef "OldestFirst$Reader" 183 "dearest") (List.mem_append_right _ (List.mem_append_right _ (List.mem_append_right _ (List.mem_append_left _ (List.mem_of_getElem? (i := 138) rfl)))))) (h2 20 hi)
  | 21, hi => exact vk_R.of (A := #[Value.ref b]) (hts0 (.stringRef "OldestFirst$Reader" 185 "lot") (List.mem_append_right _ (List.mem_append_right _ (List.mem_append_right _ (List.mem_append_left _ (List.mem_of_getElem? (i := 139) rfl)))))) (h2 21 hi)
  | i + 22, hi => exact absurd hi (by omega)
