theorem q_toInt_inj {x y : Int32} (h : x.toInt = y.toInt) : x = y := Int32.toInt_inj.mp h
theorem q_inj {x y : Int32} (h : x.toInt = y.toInt) : x = y := Int32.toInt_inj.mp h
theorem q_eq {x y : Int32} {a b : Int} (hx : x.toInt = a) (hy : y.toInt = b) (h : x = y) : a = b := by rw [← hx, ← hy, h]
theorem q_neq {x y : Int32} {a b : Int} (hx : x.toInt = a) (hy : y.toInt = b) (h : ¬ x = y) : a ≠ b := fun e => h (q_inj (by rw [hx, hy, e]))
theorem q_ne {x y : Int32} {a b : Int} (hx : x.toInt = a) (hy : y.toInt = b) (h : ¬ x = y) : a ≠ b := fun e => h (q_inj (by rw [hx, hy, e]))
theorem q_nne {x y : Int32} {a b : Int} (hx : x.toInt = a) (hy : y.toInt = b) (h : x = y) : a = b := by rw [← hx, ← hy, h]
theorem q_lt {x y : Int32} {a b : Int} (hx : x.toInt = a) (hy : y.toInt = b) (h : x < y) : a < b := by rw [← hx, ← hy]; exact Int32.lt_iff_toInt_lt.mp h
theorem q_nlt {x y : Int32} {a b : Int} (hx : x.toInt = a) (hy : y.toInt = b) (h : ¬ x < y) : b ≤ a := by rw [← hx, ← hy]; exact Int.not_lt.mp (fun q => h (Int32.lt_iff_toInt_lt.mpr q))
theorem q_le {x y : Int32} {a b : Int} (hx : x.toInt = a) (hy : y.toInt = b) (h : x ≤ y) : a ≤ b := by rw [← hx, ← hy]; exact Int32.le_iff_toInt_le.mp h
theorem q_nle {x y : Int32} {a b : Int} (hx : x.toInt = a) (hy : y.toInt = b) (h : ¬ x ≤ y) : b < a := by rw [← hx, ← hy]; exact Int.not_le.mp (fun q => h (Int32.le_iff_toInt_le.mpr q))
theorem q_ge {x y : Int32} {a b : Int} (hx : x.toInt = a) (hy : y.toInt = b) (h : y ≤ x) : b ≤ a := q_le hy hx h
theorem q_nge {x y : Int32} {a b : Int} (hx : x.toInt = a) (hy : y.toInt = b) (h : ¬ y ≤ x) : a < b := q_nle hy hx h
theorem q_gt {x y : Int32} {a b : Int} (hx : x.toInt = a) (hy : y.toInt = b) (h : y < x) : b < a := q_lt hy hx h
theorem q_ngt {x y : Int32} {a b : Int} (hx : x.toInt = a) (hy : y.toInt = b) (h : ¬ y < x) : a ≤ b := q_nlt hy hx h
theorem qc_lt {x y : Int64} {a b : Int} (hx : x.toInt = a) (hy : y.toInt = b) (h : lg_cmp x y < 0) : a < b := by
  unfold lg_cmp at h
  rw [← hx, ← hy]
  by_cases h1 : x > y
  · rw [if_pos h1] at h; exact absurd h (by decide)
  · rw [if_neg h1] at h
    by_cases h2 : x = y
    · rw [if_pos h2] at h; exact absurd h (by decide)
    · have e1 : ¬ y.toInt < x.toInt := fun q => h1 (Int64.lt_iff_toInt_lt.mpr q)
      have e2 : ¬ x.toInt = y.toInt := fun q => h2 (Int64.toInt_inj.mp q)
      omega
theorem qc_nlt {x y : Int64} {a b : Int} (hx : x.toInt = a) (hy : y.toInt = b) (h : ¬ lg_cmp x y < 0) : b ≤ a := by
  unfold lg_cmp at h
  rw [← hx, ← hy]
  by_cases h1 : x > y
  · have := Int64.lt_iff_toInt_lt.mp h1; omega
  · rw [if_neg h1] at h
    by_cases h2 : x = y
    · rw [h2]; omega
    · rw [if_neg h2] at h; exact absurd (by decide) h
theorem qc_gt {x y : Int64} {a b : Int} (hx : x.toInt = a) (hy : y.toInt = b) (h : 0 < lg_cmp x y) : b < a := by
  unfold lg_cmp at h
  rw [← hx, ← hy]
  by_cases h1 : x > y
  · exact Int64.lt_iff_toInt_lt.mp h1
  · rw [if_neg h1] at h
    by_cases h2 : x = y
    · rw [if_pos h2] at h; exact absurd h (by decide)
    · rw [if_neg h2] at h; exact absurd h (by decide)
theorem qc_ngt {x y : Int64} {a b : Int} (hx : x.toInt = a) (hy : y.toInt = b) (h : ¬ 0 < lg_cmp x y) : a ≤ b := by
  unfold lg_cmp at h
  rw [← hx, ← hy]
  by_cases h1 : x > y
  · rw [if_pos h1] at h; exact absurd (by decide) h
  · exact Int.not_lt.mp (fun q => h1 (Int64.lt_iff_toInt_lt.mpr q))
theorem q_cl {x : Int32} {n : Nat} (h1 : 0 ≤ x.toInt) (h2 : x.toInt < n) : x.toNatClampNeg < n := by
  have : x.toNatClampNeg = x.toInt.toNat := rfl
  omega
theorem nilP {D : va_G} {cl : List vw_C} {H : Heap} : va_P D cl [] H := fun k q h => by simp at h
theorem nilD {A : Nat → Prop} : va_D A [] := ⟨fun i j p q h => by simp at h, fun k q h => by simp at h⟩
/-- kept from omega's sight -/
def hid (p : Prop) : Prop := p
theorem q_rng (x : Int32) : -2147483648 ≤ x.toInt ∧ x.toInt ≤ 2147483647 := by
  have h1 := Int32.le_toInt x
  have h2 := Int32.toInt_lt x
  omega
theorem q_rngL (x : Int64) : -9223372036854775808 ≤ x.toInt ∧ x.toInt ≤ 9223372036854775807 := by
  have h1 := Int64.le_toInt x
  have h2 := Int64.toInt_lt x
  omega
theorem q_bm {z : Int} (h1 : -2147483648 ≤ z) (h2 : z ≤ 2147483647) : z.bmod (2 ^ 32) = z := by
  rw [Int.bmod_eq_of_le (by omega) (by omega)]
theorem q_bmL {z : Int} (h1 : -9223372036854775808 ≤ z) (h2 : z ≤ 9223372036854775807) : z.bmod (2 ^ 64) = z := by
  rw [Int.bmod_eq_of_le (by omega) (by omega)]
theorem q_add {x p q : Int32} {a b : Int} (e : x = p + q) (hp : p.toInt = a) (hq : q.toInt = b) (h1 : -2147483648 ≤ a + b) (h2 : a + b ≤ 2147483647) : x.toInt = a + b := by
  rw [e, Int32.toInt_add, hp, hq, q_bm h1 h2]
theorem q_sub {x p q : Int32} {a b : Int} (e : x = p - q) (hp : p.toInt = a) (hq : q.toInt = b) (h1 : -2147483648 ≤ a - b) (h2 : a - b ≤ 2147483647) : x.toInt = a - b := by
  rw [e, Int32.toInt_sub, hp, hq, q_bm h1 h2]
theorem q_mul {x p q : Int32} {a b : Int} (e : x = p * q) (hp : p.toInt = a) (hq : q.toInt = b) (h1 : -2147483648 ≤ a * b) (h2 : a * b ≤ 2147483647) : x.toInt = a * b := by
  rw [e, Int32.toInt_mul, hp, hq, q_bm h1 h2]
theorem q_addL {x p q : Int64} {a b : Int} (e : x = p + q) (hp : p.toInt = a) (hq : q.toInt = b) (h1 : -9223372036854775808 ≤ a + b) (h2 : a + b ≤ 9223372036854775807) : x.toInt = a + b := by
  rw [e, Int64.toInt_add, hp, hq, q_bmL h1 h2]
theorem q_subL {x p q : Int64} {a b : Int} (e : x = p - q) (hp : p.toInt = a) (hq : q.toInt = b) (h1 : -9223372036854775808 ≤ a - b) (h2 : a - b ≤ 9223372036854775807) : x.toInt = a - b := by
  rw [e, Int64.toInt_sub, hp, hq, q_bmL h1 h2]
theorem q_mulL {x p q : Int64} {a b : Int} (e : x = p * q) (hp : p.toInt = a) (hq : q.toInt = b) (h1 : -9223372036854775808 ≤ a * b) (h2 : a * b ≤ 9223372036854775807) : x.toInt = a * b := by
  rw [e, Int64.toInt_mul, hp, hq, q_bmL h1 h2]
theorem q_subinv {x a : Int32} (e : x = a - 24) (h0 : 0 ≤ x.toInt) (h1 : x.toInt ≤ 23) : a.toInt = x.toInt + 24 := by
  have h : a = x + 24 := by rw [e, Int32.sub_add_cancel]
  exact q_add h rfl (by decide) (by omega) (by omega)
theorem q_pos {x : Int32} (h : 1 ≤ x.toInt) : ¬ x = 0 := fun e => by rw [e] at h; exact absurd h (by decide)
theorem q_posL {x : Int64} (h : 1 ≤ x.toInt) : ¬ x = 0 := fun e => by rw [e] at h; exact absurd h (by decide)
theorem q_div {x p q : Int32} {a b : Int} (e : x = p / q) (hp : p.toInt = a) (hq : q.toInt = b) (h1 : 0 ≤ a) (h2 : 1 ≤ b) : x.toInt = a / b := by
  rw [e, lg_idiv_nonneg (by omega) (by omega), hp, hq]
theorem q_divL {x p q : Int64} {a b : Int} (e : x = p / q) (hp : p.toInt = a) (hq : q.toInt = b) (h1 : 0 ≤ a) (h2 : 1 ≤ b) : x.toInt = a / b := by
  rw [e, lg_ldiv_nonneg (by omega) (by omega), hp, hq]
theorem q_remA {a b : Int} (h1 : 0 ≤ a) (h2 : 1 ≤ b) : 0 ≤ a - a / b * b ∧ a - a / b * b < b ∧ 0 ≤ a / b * b ∧ a / b * b ≤ a := by
  have e1 := Int.emod_def a b
  have e2 := Int.emod_nonneg a (show b ≠ 0 by omega)
  have e3 := Int.emod_lt_of_pos a (show 0 < b by omega)
  have e4 : a / b * b = b * (a / b) := Int.mul_comm _ _
  have e5 : 0 ≤ b * (a / b) := Int.mul_nonneg (by omega) (Int.ediv_nonneg h1 (by omega))
  omega
theorem q_rem {x p q : Int32} {a b : Int} (e : x = p - p / q * q) (hp : p.toInt = a) (hq : q.toInt = b) (h1 : 0 ≤ a) (h2 : 1 ≤ b) : 0 ≤ x.toInt ∧ x.toInt < b ∧ x.toInt ≤ a := by
  obtain ⟨k1, k2, k3, k4⟩ := q_remA h1 h2
  have r := q_rng p
  have d : (p / q).toInt = a / b := q_div rfl hp hq h1 h2
  have m : (p / q * q).toInt = a / b * b := q_mul rfl d hq (by omega) (by omega)
  have z : x.toInt = a - a / b * b := q_sub e hp m (by omega) (by omega)
  omega
theorem q_remL {x p q : Int64} {a b : Int} (e : x = p - p / q * q) (hp : p.toInt = a) (hq : q.toInt = b) (h1 : 0 ≤ a) (h2 : 1 ≤ b) : 0 ≤ x.toInt ∧ x.toInt < b ∧ x.toInt ≤ a := by
  obtain ⟨k1, k2, k3, k4⟩ := q_remA h1 h2
  have r := q_rngL p
  have d : (p / q).toInt = a / b := q_divL rfl hp hq h1 h2
  have m : (p / q * q).toInt = a / b * b := q_mulL rfl d hq (by omega) (by omega)
  have z : x.toInt = a - a / b * b := q_subL e hp m (by omega) (by omega)
  omega
theorem q_nn {x : Int32} (h : 0 ≤ x.toInt) : ¬ x < 0 := fun q => by
  have := Int32.lt_iff_toInt_lt.mp q
  rw [show (0 : Int32).toInt = 0 from by decide] at this
  omega
theorem q_cp {x n : Int32} {a b : Int} {N : Nat} (hx : x.toInt = a) (hn : n.toInt = b) (h1 : 0 ≤ a) (h2 : 0 ≤ b) (h3 : a + b ≤ N) : x.toNatClampNeg + n.toNatClampNeg ≤ N := by
  have e1 : x.toNatClampNeg = x.toInt.toNat := rfl
  have e2 : n.toNatClampNeg = n.toInt.toNat := rfl
  omega
theorem q_nIc {x : Int32} (h : 0 ≤ x.toInt) : x = nI x.toNatClampNeg := by
  have e1 : x.toNatClampNeg = x.toInt.toNat := rfl
  have r := q_rng x
  refine q_inj ?_
  rw [nI_toInt (by omega)]
  omega
theorem q_cle {x : Int32} {n : Nat} (h : x.toInt ≤ n) : x.toNatClampNeg ≤ n := by
  have e1 : x.toNatClampNeg = x.toInt.toNat := rfl
  omega
theorem q_01 {x : Int32} (h1 : 0 ≤ x.toInt) (h2 : x.toInt ≤ 1) : x = 0 ∨ x = 1 := by
  rcases (show x.toInt = 0 ∨ x.toInt = 1 by omega) with h | h
  · exact Or.inl (q_inj (h.trans (by decide)))
  · exact Or.inr (q_inj (h.trans (by decide)))
theorem q_nz {x : Int32} (h1 : 0 ≤ x.toInt) (h2 : x.toInt ≤ 1) : narrow .boolean (.int x) = .int x := by
  rcases q_01 h1 h2 with rfl | rfl <;> rfl
theorem q_fz {x : Int32} (h1 : 0 ≤ x.toInt) (h2 : x.toInt ≤ 1) : fits .boolean (.int x) = true := by
  rcases q_01 h1 h2 with rfl | rfl <;> rfl
theorem q_vz {x : Int32} (h1 : 0 ≤ x.toInt) (h2 : x.toInt ≤ 1) : vp_nar .boolean x = x := by
  rcases q_01 h1 h2 with rfl | rfl <;> rfl
theorem q_land31 {x y : Int64} (e : x = y &&& 2147483647) : 0 ≤ x.toInt ∧ x.toInt ≤ 2147483647 := by
  have h : x.toBitVec.toNat < 2 ^ 31 := by
    rw [e]
    show (y.toBitVec &&& (2147483647 : Int64).toBitVec).toNat < 2 ^ 31
    rw [BitVec.toNat_and, show ((2147483647 : Int64).toBitVec).toNat = 2 ^ 31 - 1 from by decide, Nat.and_two_pow_sub_one_eq_mod]
    exact Nat.mod_lt _ (by decide)
  have h2 : x.toInt = (x.toBitVec.toNat : Int) := by
    show x.toBitVec.toInt = _
    rw [BitVec.toInt_eq_toNat_cond, if_pos (by omega)]
  omega
theorem q_l2i {x : Int32} {p : Int64} {a : Int} (e : p.toInt32 = x) (hp : p.toInt = a) (h1 : -2147483648 ≤ a) (h2 : a ≤ 2147483647) : x.toInt = a := by
  rw [← e, Int64.toInt_toInt32, hp, q_bm h1 h2]
theorem q_max {x p q : Int32} {a b : Int} (e : x = if p < q then q else p) (hp : p.toInt = a) (hq : q.toInt = b) : (a ≤ x.toInt ∧ b ≤ x.toInt) ∧ (x.toInt = a ∨ x.toInt = b) := by
  have k := Int32.lt_iff_toInt_lt (x := p) (y := q)
  by_cases h : p < q
  · rw [if_pos h] at e; subst e; have := k.mp h; omega
  · rw [if_neg h] at e; subst e; have : ¬ _ := fun z => h (k.mpr z); omega
theorem q_min {x p q : Int32} {a b : Int} (e : x = if q < p then q else p) (hp : p.toInt = a) (hq : q.toInt = b) : (x.toInt ≤ a ∧ x.toInt ≤ b) ∧ (x.toInt = a ∨ x.toInt = b) := by
  have k := Int32.lt_iff_toInt_lt (x := q) (y := p)
  by_cases h : q < p
  · rw [if_pos h] at e; subst e; have := k.mp h; omega
  · rw [if_neg h] at e; subst e; have : ¬ _ := fun z => h (k.mpr z); omega
/-- what an array of numbers holds lies between two bounds -/
def bd (lo hi : Int) (f : Nat → Int32) : Prop := ∀ j : Nat, lo ≤ (f j).toInt ∧ (f j).toInt ≤ hi
def bdL (lo hi : Int) (f : Nat → Int64) : Prop := ∀ j : Nat, lo ≤ (f j).toInt ∧ (f j).toInt ≤ hi
theorem bd.at {lo hi : Int} {f : Nat → Int32} {j : Nat} {x : Int32} (h : bd lo hi f) (e : x = f j) : lo ≤ x.toInt ∧ x.toInt ≤ hi := by rw [e]; exact h j
theorem bdL.at {lo hi : Int} {f : Nat → Int64} {j : Nat} {x : Int64} (h : bdL lo hi f) (e : x = f j) : lo ≤ x.toInt ∧ x.toInt ≤ hi := by rw [e]; exact h j
theorem bd_upd {lo hi a : Int} {f : Nat → Int32} {k : Nat} {x : Int32} (h : bd lo hi f) (hx : x.toInt = a) (h1 : lo ≤ a) (h2 : a ≤ hi) : bd lo hi (upd f k x) := fun j => by
  unfold upd
  by_cases hj : j = k
  · rw [if_pos hj]; omega
  · rw [if_neg hj]; exact h j
theorem bd_updz {a : Int} {f : Nat → Int32} {k : Nat} {x : Int32} (h : bd 0 1 f) (hx : x.toInt = a) (h1 : 0 ≤ a) (h2 : a ≤ 1) : bd 0 1 (upd f k (vp_nar .boolean x)) := by
  rw [q_vz (by omega) (by omega)]
  exact bd_upd h hx h1 h2
theorem bd_cpy {lo hi : Int} {f g : Nat → Int32} {sp dp n : Nat} (hf : bd lo hi f) (hg : bd lo hi g) : bd lo hi (va_cpy f g sp dp n) := fun j => by
  unfold va_cpy
  by_cases hj : dp ≤ j ∧ j < dp + n
  · rw [if_pos hj]; exact hf _
  · rw [if_neg hj]; exact hg _
theorem bd_fill {lo hi a : Int} {f f2 : Nat → Int32} {n : Nat} {v : Int32} (h : bd lo hi f) (e : ∀ j : Nat, (j < n → f2 j = v) ∧ (n ≤ j → f2 j = f j)) (hv : v.toInt = a) (h1 : lo ≤ a) (h2 : a ≤ hi) : bd lo hi f2 := fun j => by
  rcases Nat.lt_or_ge j n with q | q
  · rw [(e j).1 q]; omega
  · rw [(e j).2 q]; exact h j
theorem bd_0 {lo hi : Int} (h1 : lo ≤ 0) (h2 : 0 ≤ hi) : bd lo hi (fun _ => 0) := fun _ => by
  show lo ≤ (0 : Int32).toInt ∧ (0 : Int32).toInt ≤ hi
  rw [show (0 : Int32).toInt = 0 from by decide]
  exact ⟨h1, h2⟩
/-- rows of records: the bounds go by the place in the record -/
def bdm (m : Nat) (L : List (Int × Int)) (f : Nat → Int32) : Prop := ∀ (j : Nat) (q : Int × Int), L[j % m]? = some q → q.1 ≤ (f j).toInt ∧ (f j).toInt ≤ q.2
theorem bdm.at {m : Nat} {L : List (Int × Int)} {f : Nat → Int32} {j c : Nat} {x : Int32} {lo hi : Int} (h : bdm m L f) (e : x = f j) (hr : j % m = c) (hq : L[c]? = some (lo, hi)) : lo ≤ x.toInt ∧ x.toInt ≤ hi := by rw [e]; exact h j (lo, hi) (by rw [hr]; exact hq)
theorem bdm_upd {m : Nat} {L : List (Int × Int)} {lo hi a : Int} {f : Nat → Int32} {k c : Nat} {x : Int32} (h : bdm m L f) (hr : k % m = c) (hq : L[c]? = some (lo, hi)) (hx : x.toInt = a) (h1 : lo ≤ a) (h2 : a ≤ hi) : bdm m L (upd f k x) := fun j q hj => by
  unfold upd
  by_cases hk : j = k
  · rw [if_pos hk]
    rw [hk, hr, hq] at hj
    cases hj
    show lo ≤ _ ∧ _ ≤ hi
    omega
  · rw [if_neg hk]; exact h j q hj
theorem bdm_updA {m : Nat} {L : List (Int × Int)} {lo hi a : Int} {f : Nat → Int32} {k : Nat} {x : Int32} (h : bdm m L f) (hL : ∀ q ∈ L, q.1 ≤ lo ∧ hi ≤ q.2) (hx : x.toInt = a) (h1 : lo ≤ a) (h2 : a ≤ hi) : bdm m L (upd f k x) := fun j q hj => by
  unfold upd
  by_cases hk : j = k
  · rw [if_pos hk]
    have := hL q (List.mem_of_getElem? hj)
    omega
  · rw [if_neg hk]; exact h j q hj
theorem bdm_0 {m : Nat} {L : List (Int × Int)} (h : ∀ q ∈ L, q.1 ≤ 0 ∧ 0 ≤ q.2) : bdm m L (fun _ => 0) := fun j q hj => by
  show q.1 ≤ (0 : Int32).toInt ∧ (0 : Int32).toInt ≤ q.2
  rw [show (0 : Int32).toInt = 0 from by decide]
  exact h q (List.mem_of_getElem? hj)
/-- a stretch of mm places, from mm * aa on, put to mm * bb on -/
def cpr (f : Nat → Int32) (mm aa bb : Nat) : Nat → Int32 := fun j => if mm * bb ≤ j ∧ j < mm * bb + mm then f (j - mm * bb + mm * aa) else f j
theorem bdm_cpr {m : Nat} {L : List (Int × Int)} {f : Nat → Int32} {mm aa bb : Nat} (h : bdm m L f) (hm : mm % m = 0) : bdm m L (cpr f mm aa bb) := fun j q hj => by
  unfold cpr
  by_cases hk : mm * bb ≤ j ∧ j < mm * bb + mm
  · rw [if_pos hk]
    refine h _ q ?_
    have e : (j - mm * bb + mm * aa) % m = j % m := by
      have h1 : mm * aa % m = 0 := by rw [Nat.mul_mod, hm, Nat.zero_mul, Nat.zero_mod]
      have h2 : mm * bb % m = 0 := by rw [Nat.mul_mod, hm, Nat.zero_mul, Nat.zero_mod]
      have h3 : j % m = (j - mm * bb + mm * bb) % m := by rw [Nat.sub_add_cancel hk.1]
      rw [h3, Nat.add_mod, h1, Nat.add_mod (j - mm * bb) (mm * bb), h2]
    rw [e]; exact hj
  · rw [if_neg hk]; exact h j q hj
theorem q_res {x : Int32} {m c : Nat} (h : x.toInt.toNat % m = c) : x.toNatClampNeg % m = c := h
/-- who is a clerk is the clerk of somebody -/
def lenS : List Nat := [4, 4, 4, 6, 5, 4, 5, 6, 7, 5, 6, 2, 2, 4, 5, 5, 2, 3, 6, 6, 7, 3]
def bytS : List (List Int32) := [[116, 111, 119, 110], [100, 97, 121, 115], [112, 111, 115, 116], [112, 101, 114, 115, 111, 110], [104, 111, 117, 114, 115], [102, 117, 108, 108], [115, 104, 111, 114, 116], [115, 117, 110, 100, 97, 121], [119, 111, 114, 114, 105, 101, 114], [99, 108, 101, 114, 107], [108, 101, 116, 116, 101, 114], [116, 111], [111, 110], [98, 97, 99, 107], [97, 102, 116, 101, 114], [119, 111, 114, 116, 104], [98, 121], [108, 97, 119], [111, 108, 100, 101, 115, 116], [110, 101, 119, 101, 115, 116], [100, 101, 97, 114, 101, 115, 116], [108, 111, 116]]
def ixS : List Nat := [82, 86, 94, 63, 104, 119, 121, 123, 125, 127, 72, 138, 142, 152, 158, 162, 166, 77, 179, 181, 183, 185]
def txS : List String := ["town", "days", "post", "person", "hours", "full", "short", "sunday", "worrier", "clerk", "letter", "to", "on", "back", "after", "worth", "by", "law", "oldest", "newest", "dearest", "lot"]
def strs (adK adV : Nat → Nat) (A : Nat → Prop) (U : State) : Prop := vk_S 22 lenS bytS adK adV A U U.heap ∧ va_Z "java/lang/String" "COMPACT_STRINGS" "Z" (.int 1) A U U.heap ∧ va_Zq "jdk/internal/util/Preconditions" "SIOOBE_FORMATTER" "Ljava/util/function/BiFunction;" A U U.heap ∧ ∀ i : Nat, i < 22 → vk_R "OldestFirst$Reader" (ixS.getD i 0) (txS.getD i "") (adK i) U
theorem strs.same {adK adV : Nat → Nat} {A : Nat → Prop} {u U : State} (hh : U.heap = u.heap) (hv : U.vm = u.vm) (h : strs adK adV A u) : strs adK adV A U := by
  have ha : u.vm.Alike U.vm := by rw [hv]; exact Vm.Alike.refl u.vm
  obtain ⟨h1, h2, h3, h4⟩ := h
  refine ⟨by rw [hh]; exact h1.moved ha, by rw [hh]; exact h2.moved ha, ?_, fun i hi => vk_R.same hv (h4 i hi)⟩
  rcases h3 with h | ⟨t, h⟩
  · exact Or.inl (by rw [hh]; exact h.moved ha)
  · exact Or.inr ⟨t, by rw [hh]; exact h.moved ha⟩
theorem strs.call {adK adV : Nat → Nat} {A B : Nat → Prop} {s U : State} {H : Heap} {locs : List Loc} (h : strs adK adV A s) (hS : va_S A s.heap H locs) (hF : ∀ q, B q → A q) (hU : U.heap = H) (hW : s.WarmedH U.vm) : strs adK adV B U := by
  obtain ⟨h1, h2, h3, h4⟩ := h
  subst hU
  refine ⟨((h1.kept hS.2.1).narrow hF).moved hW.alike, ((h2.kept hS.2.1).narrow hF).moved hW.alike, ?_, fun i hi => vk_R.warm hW (h4 i hi)⟩
  rcases h3 with h | ⟨t, h⟩
  · exact Or.inl (((h.kept hS.2.1).narrow hF).moved hW.alike)
  · exact Or.inr ⟨t, ((h.kept hS.2.1).narrow hF).moved hW.alike⟩
theorem len_b : ∀ i, i < 22 → lenS.getD i 0 ≤ 10 := by decide
theorem len_eq {wi : Nat} {x : Int32} (h : wi < 22) (e : x = nI (lenS.getD wi 0)) : x.toInt = ((lenS.getD wi 0 : Nat) : Int) := by
  have := len_b wi h
  rw [e, nI_toInt (by omega)]
theorem len_in {wi : Nat} {x : Int32} (h : wi < 22) (e : x = nI (lenS.getD wi 0)) : 0 ≤ x.toInt ∧ x.toInt ≤ 10 := by
  have h1 := len_b wi h
  have h2 := len_eq h e
  omega
theorem q_addB {x a b la ha lb hb lo hi : Int} (e : x = a + b) (h1 : la ≤ a ∧ a ≤ ha) (h2 : lb ≤ b ∧ b ≤ hb) (e1 : lo = la + lb) (e2 : hi = ha + hb) : lo ≤ x ∧ x ≤ hi := by omega
theorem q_subB {x a b la ha lb hb lo hi : Int} (e : x = a - b) (h1 : la ≤ a ∧ a ≤ ha) (h2 : lb ≤ b ∧ b ≤ hb) (e1 : lo = la - hb) (e2 : hi = ha - lb) : lo ≤ x ∧ x ≤ hi := by omega
theorem q_mulB {x a k la ha lo hi : Int} (e : x = k * a) (hk : 0 ≤ k) (h1 : la ≤ a ∧ a ≤ ha) (e1 : lo = k * la) (e2 : hi = k * ha) : lo ≤ x ∧ x ≤ hi := by
  subst e e1 e2
  exact ⟨Int.mul_le_mul_of_nonneg_left h1.1 hk, Int.mul_le_mul_of_nonneg_left h1.2 hk⟩
theorem qc_ne {x y : Int64} {a b : Int} (hx : x.toInt = a) (hy : y.toInt = b) (h : ¬ lg_cmp x y = 0) : a ≠ b := fun q => h (by
  have e : x = y := Int64.toInt_inj.mp (by rw [hx, hy]; exact q)
  subst e
  unfold lg_cmp
  rw [if_neg (fun h1 : x > x => absurd (Int64.lt_iff_toInt_lt.mp h1) (by omega)), if_pos rfl])
theorem qc_eq {x y : Int64} {a b : Int} (hx : x.toInt = a) (hy : y.toInt = b) (h : lg_cmp x y = 0) : a = b := by
  unfold lg_cmp at h
  rw [← hx, ← hy]
  by_cases h1 : x > y
  · rw [if_pos h1] at h; exact absurd h (by decide)
  · rw [if_neg h1] at h
    by_cases h2 : x = y
    · rw [h2]
    · rw [if_neg h2] at h; exact absurd h (by decide)
theorem qc_nne {x y : Int64} {a b : Int} (hx : x.toInt = a) (hy : y.toInt = b) (h : lg_cmp x y = 0) : a = b := qc_eq hx hy h
theorem qc_neq {x y : Int64} {a b : Int} (hx : x.toInt = a) (hy : y.toInt = b) (h : ¬ lg_cmp x y = 0) : a ≠ b := qc_ne hx hy h
theorem sh_0 {x y r : Int32} {wi : Nat} (e : x = y >>> (r &&& 31)) (ey : y = nI (lenS.getD wi 0)) (hr : r.toInt = 0) : x = nI (lenS.getD wi 0) := by
  have r0 : r = 0 := q_inj (hr.trans (by decide))
  rw [e, r0, sb_shr0, ey]
/-- the byte of a tape at a place, -1 beyond -/
def tat (f : Nat → Int32) (n p : Int32) : Int32 := if 0 ≤ p.toInt ∧ p.toInt < n.toInt ∧ p.toInt < 2400 then f p.toNatClampNeg &&& 255 else -1
theorem tat_in {f : Nat → Int32} {n p x y : Int32} (h : 0 ≤ p.toInt ∧ p.toInt < n.toInt ∧ p.toInt < 2400) (ex : x = f p.toNatClampNeg) (ey : y = x &&& 255) : y = tat f n p := by
  unfold tat
  rw [if_pos h, ey, ex]
theorem tat_out {f : Nat → Int32} {n p : Int32} (h : ¬ (0 ≤ p.toInt ∧ p.toInt < n.toInt ∧ p.toInt < 2400)) : (-1 : Int32) = tat f n p := by
  unfold tat
  rw [if_neg h]
def clk (n : Int) (k m : Nat → Int32) : Prop := ∀ j : Nat, (j : Int) < n → (k j).toInt = 4 → 0 ≤ (m j).toInt
theorem clk.at {n : Int} {k m : Nat → Int32} (h : clk n k m) {a x y : Int32} (h0 : 0 ≤ a.toInt) (h1 : a.toInt < n) (ex : x = k a.toNatClampNeg) (ey : y = m a.toNatClampNeg) (h4 : x.toInt = 4) : 0 ≤ y.toInt := by
  have e1 : a.toNatClampNeg = a.toInt.toNat := rfl
  rw [ey]
  exact h _ (by omega) (by rw [← ex]; exact h4)
theorem clk_0 {k m : Nat → Int32} : clk (0 : Int32).toInt k m := fun j h => absurd h (by rw [show (0 : Int32).toInt = 0 from by decide]; omega)
theorem clk_cpy {n : Int} {k m k0 m0 k' m' : Nat → Int32} (h : clk n k m) (hn : n ≤ 8) (e1 : va_cpy k k0 (0 : Int32).toNatClampNeg (0 : Int32).toNatClampNeg (8 : Int32).toNatClampNeg = k') (e2 : va_cpy m m0 (0 : Int32).toNatClampNeg (0 : Int32).toNatClampNeg (8 : Int32).toNatClampNeg = m') : clk n k' m' := by
  have z0 : (0 : Int32).toNatClampNeg = 0 := by decide
  have z8 : (8 : Int32).toNatClampNeg = 8 := by decide
  rw [z0, z8] at e1 e2
  intro j hj hk
  subst e1 e2
  have c : ∀ f g : Nat → Int32, va_cpy f g 0 0 8 j = f j := fun f g => by
    unfold va_cpy
    rw [if_pos (by omega)]
    exact congrArg f (by omega)
  rw [c] at hk ⊢
  exact h j hj hk
theorem clk_far {n : Int} {k m k' m' : Nat → Int32} {a v w : Int32} (h : clk n k m) (hn : n ≤ a.toInt) (ek : k' = k ∨ upd k a.toNatClampNeg v = k') (em : m' = m ∨ upd m a.toNatClampNeg w = m') : clk n k' m' := fun j hj hk => by
  have e1 : a.toNatClampNeg = a.toInt.toNat := rfl
  have k1 : k' j = k j := by
    rcases ek with e | e
    · rw [e]
    · rw [← e]; unfold upd; rw [if_neg (by omega)]
  have m1 : m' j = m j := by
    rcases em with e | e
    · rw [e]
    · rw [← e]; unfold upd; rw [if_neg (by omega)]
  rw [m1]; rw [k1] at hk
  exact h j hj hk
theorem clk_add {n n' : Int} {k m k' m' : Nat → Int32} {a v w : Int32} (h : clk n k' m') (hn : n = a.toInt) (h0 : 0 ≤ a.toInt) (hn' : n' = n + 1) (ek : upd k a.toNatClampNeg v = k') (em : upd m a.toNatClampNeg w = m') (hv : v.toInt = 4 → 0 ≤ w.toInt) : clk n' k' m' := fun j hj hk => by
  have e1 : a.toNatClampNeg = a.toInt.toNat := rfl
  by_cases q : j = a.toNatClampNeg
  · rw [← em]; unfold upd; rw [if_pos q]
    rw [← ek] at hk; unfold upd at hk; rw [if_pos q] at hk
    exact hv hk
  · exact h j (by omega) hk
theorem clk_le {n n' : Int} {k m : Nat → Int32} (h : clk n k m) (hn : n' ≤ n) : clk n' k m := fun j hj hk => h j (by omega) hk
theorem gQ {p : Program} {l : Launch} {e : Env} {R : Room} {s : State} {m : MethodId} {args : Array Value} {below : List Frame} {meth : Method} {c : Code} {H : Heap} {locs : List Loc} {cells slots : Nat} {Q : State → Prop} {g : JFrame} (h : ∀ Q' : State → Prop, Q' = Q → W p l e R s m args below meth c H locs cells slots Q' g) : W p l e R s m args below meth c H locs cells slots Q g := h Q rfl
theorem q_osw2 {x : Int32} {a b o o2 d : Int} (h : x.toInt ≠ a) (h2 : x.toInt ≠ b) : Op.lookupswitch.offset [(a, o), (b, o2)] d x.toInt = d := by
  rw [Op.lookupswitch.offset_cons, if_neg (fun q => h q.symm), Op.lookupswitch.offset_cons, if_neg (fun q => h2 q.symm)]
  rfl
theorem q_sp0_2 {x : Int32} (h1 : 0 ≤ x.toInt) (h2 : x.toInt ≤ 2) : x = 0 ∨ x = 1 ∨ x = 2 := by
  rcases (show x.toInt = 0 ∨ x.toInt = 1 ∨ x.toInt = 2 by omega) with h | h | h
  · exact Or.inl (q_inj (h.trans (by decide)))
  · exact Or.inr (Or.inl (q_inj (h.trans (by decide))))
  · exact Or.inr (Or.inr (q_inj (h.trans (by decide))))
theorem q_sp0_3 {x : Int32} (h1 : 0 ≤ x.toInt) (h2 : x.toInt ≤ 3) : x = 0 ∨ x = 1 ∨ x = 2 ∨ x = 3 := by
  rcases (show x.toInt = 0 ∨ x.toInt = 1 ∨ x.toInt = 2 ∨ x.toInt = 3 by omega) with h | h | h | h
  · exact Or.inl (q_inj (h.trans (by decide)))
  · exact Or.inr (Or.inl (q_inj (h.trans (by decide))))
  · exact Or.inr (Or.inr (Or.inl (q_inj (h.trans (by decide)))))
  · exact Or.inr (Or.inr (Or.inr (q_inj (h.trans (by decide)))))
