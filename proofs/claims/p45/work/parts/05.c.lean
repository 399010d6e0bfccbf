def ctN (p : Nat → Bool) : Nat → Nat
  | 0 => 0
  | n + 1 => ctN p n + (if p n then 1 else 0)
theorem ctN_le (p : Nat → Bool) : ∀ n, ctN p n ≤ n
  | 0 => Nat.le_refl 0
  | n + 1 => by
    have h := ctN_le p n
    show ctN p n + (if p n then 1 else 0) ≤ n + 1
    by_cases q : p n = true
    · rw [if_pos q]; omega
    · rw [if_neg q]; omega
theorem ctN_zero {p : Nat → Bool} : ∀ {n : Nat}, ctN p n = 0 → ∀ k, k < n → p k = false
  | 0, _, k, hk => absurd hk (Nat.not_lt_zero k)
  | n + 1, h, k, hk => by
    have e : ctN p n + (if p n then 1 else 0) = 0 := h
    by_cases q : p n = true
    · rw [if_pos q] at e; omega
    · rcases Nat.lt_or_ge k n with z | z
      · exact ctN_zero (by omega) k z
      · have : k = n := by omega
        subst this
        simpa using q
theorem ctN_none {p : Nat → Bool} : ∀ {n : Nat}, (∀ k, k < n → p k = false) → ctN p n = 0
  | 0, _ => rfl
  | n + 1, h => by
    show ctN p n + (if p n then 1 else 0) = 0
    rw [h n (by omega), ctN_none (fun k hk => h k (by omega))]
    rfl
theorem ctN_cong {p q : Nat → Bool} : ∀ {n : Nat}, (∀ k, k < n → p k = q k) → ctN p n = ctN q n
  | 0, _ => rfl
  | n + 1, h => by
    show ctN p n + (if p n then 1 else 0) = ctN q n + (if q n then 1 else 0)
    rw [ctN_cong (fun k hk => h k (by omega)), h n (by omega)]
theorem ctN_mono {p q : Nat → Bool} : ∀ {n : Nat}, (∀ k, k < n → p k = true → q k = true) → ctN p n ≤ ctN q n
  | 0, _ => Nat.le_refl 0
  | n + 1, h => by
    have i := ctN_mono (p := p) (q := q) (n := n) (fun k hk => h k (by omega))
    have hn := h n (by omega)
    show ctN p n + (if p n then 1 else 0) ≤ ctN q n + (if q n then 1 else 0)
    by_cases c : p n = true
    · rw [if_pos c, if_pos (hn c)]; omega
    · rw [if_neg c]; omega
theorem ctN_strict {p q : Nat → Bool} : ∀ {n : Nat}, (∀ k, k < n → p k = true → q k = true) → ∀ i, i < n → p i = false → q i = true → ctN p n < ctN q n
  | 0, _, i, hi, _, _ => absurd hi (Nat.not_lt_zero i)
  | n + 1, h, i, hi, h1, h2 => by
    have hn := h n (by omega)
    show ctN p n + (if p n then 1 else 0) < ctN q n + (if q n then 1 else 0)
    rcases Nat.lt_or_ge i n with z | z
    · have r := ctN_strict (p := p) (q := q) (n := n) (fun k hk => h k (by omega)) i z h1 h2
      by_cases c : p n = true
      · rw [if_pos c, if_pos (hn c)]; omega
      · rw [if_neg c]; omega
    · have e : i = n := by omega
      subst e
      have r := ctN_mono (p := p) (q := q) (n := i) (fun k hk => h k (by omega))
      rw [if_neg (by rw [h1]; decide), if_pos h2]
      omega
theorem ctN_upd {p : Nat → Bool} {i : Nat} (hp : p i = false) : ∀ {n : Nat}, i < n → ctN (fun k => if k = i then true else p k) n = ctN p n + 1
  | 0, h => absurd h (Nat.not_lt_zero i)
  | n + 1, h => by
    show ctN (fun k => if k = i then true else p k) n + (if (if n = i then true else p n) = true then 1 else 0) = ctN p n + (if p n = true then 1 else 0) + 1
    rcases Nat.lt_or_ge i n with q | q
    · rw [ctN_upd hp q, if_neg (show ¬ n = i by omega)]
      omega
    · have e : i = n := by omega
      subst e
      rw [if_pos rfl, ctN_cong (q := p) (fun k hk => by rw [if_neg (show ¬ k = i by omega)]), hp]
      rfl
theorem ct_z {P : Nat → Bool} : (0 : Int32).toInt = ((ctN P (0 : Int32).toInt.toNat : Nat) : Int) := by
  rw [show (0 : Int32).toInt = 0 from by decide]
  rfl
theorem ct_s {P : Nat → Bool} {n k y r mm : Int32} (hn : n.toInt = ((ctN P k.toInt.toNat : Nat) : Int)) (hk : 0 ≤ k.toInt) (hy : y.toInt = k.toInt + 1) (hr : r.toInt = if P k.toNatClampNeg then 1 else 0) (hm : mm.toInt = n.toInt + r.toInt) : mm.toInt = ((ctN P y.toInt.toNat : Nat) : Int) := by
  have e : y.toInt.toNat = k.toInt.toNat + 1 := by omega
  have e2 : ctN P (k.toInt.toNat + 1) = ctN P k.toInt.toNat + (if P k.toInt.toNat then 1 else 0) := rfl
  have e3 : k.toNatClampNeg = k.toInt.toNat := rfl
  rw [e3] at hr
  rw [e, e2]
  by_cases q : P k.toInt.toNat = true
  · rw [if_pos q] at hr ⊢; omega
  · rw [if_neg q] at hr ⊢; omega
/-- to whom a letter is, by the rows -/
def tof (fl fm : Nat → Int32) (k : Nat) : Int32 := if k = 48 then fm 1 else if k < 24 then fl (8 * k + 1) else fl (8 * (k - 24))
theorem tof_more {fl fm : Nat → Int32} {a x : Int32} (ha : a.toInt = 48) (e : x = fm (1 : Int32).toNatClampNeg) : x = tof fl fm a.toNatClampNeg := by
  have e1 : a.toNatClampNeg = a.toInt.toNat := rfl
  unfold tof
  rw [if_pos (by omega), e]
  exact congrArg fm (by decide)
theorem tof_lo {fl fm : Nat → Int32} {a x i : Int32} (h0 : 0 ≤ a.toInt) (ha : a.toInt < 24) (hi : i.toInt = 8 * a.toInt + 1) (e : x = fl i.toNatClampNeg) : x = tof fl fm a.toNatClampNeg := by
  have e1 : a.toNatClampNeg = a.toInt.toNat := rfl
  have e2 : i.toNatClampNeg = i.toInt.toNat := rfl
  unfold tof
  rw [if_neg (by omega), if_pos (by omega), e]
  exact congrArg fl (by omega)
theorem tof_hi {fl fm : Nat → Int32} {a x i : Int32} (h0 : 24 ≤ a.toInt) (ha : a.toInt ≠ 48) (hi : i.toInt = 8 * (a.toInt - 24)) (e : x = fl i.toNatClampNeg) : x = tof fl fm a.toNatClampNeg := by
  have e1 : a.toNatClampNeg = a.toInt.toNat := rfl
  have e2 : i.toNatClampNeg = i.toInt.toNat := rfl
  unfold tof
  rw [if_neg (by omega), if_neg (by omega), e]
  exact congrArg fl (by omega)
/-- a letter lies on a pile -/
def onp (fc fa fb fl fm : Nat → Int32) (p d : Int32) (k : Nat) : Bool := decide ((fc k).toInt ≠ -1 ∧ (fc k).toInt ≤ d.toInt ∧ (fa k).toInt = -1 ∧ (fb k).toInt = 0 ∧ (tof fl fm k).toInt = p.toInt)
theorem onp_1 {fc fa fb fl fm : Nat → Int32} {p d u x1 x2 x3 x4 : Int32} {k : Nat} (hu : u.toInt = 1) (e1 : x1 = fc k) (h1 : x1.toInt ≠ -1) (h2 : x1.toInt ≤ d.toInt) (e2 : x2 = fa k) (h3 : x2.toInt = -1) (e3 : x3 = fb k) (h4 : x3.toInt = 0) (e4 : x4 = tof fl fm k) (h5 : x4.toInt = p.toInt) : u.toInt = if onp fc fa fb fl fm p d k then 1 else 0 := by
  subst e1 e2 e3 e4
  rw [if_pos (show onp fc fa fb fl fm p d k = true from decide_eq_true ⟨h1, h2, h3, h4, h5⟩)]
  exact hu
theorem onp_0 {fc fa fb fl fm : Nat → Int32} {p d u : Int32} {k : Nat} (hu : u.toInt = 0) (h : ¬ ((fc k).toInt ≠ -1 ∧ (fc k).toInt ≤ d.toInt ∧ (fa k).toInt = -1 ∧ (fb k).toInt = 0 ∧ (tof fl fm k).toInt = p.toInt)) : u.toInt = if onp fc fa fb fl fm p d k then 1 else 0 := by
  rw [if_neg (show ¬ onp fc fa fb fl fm p d k = true from fun q => h (of_decide_eq_true q))]
  exact hu
theorem onp_0a {fc fa fb fl fm : Nat → Int32} {p d u x : Int32} {k : Nat} (hu : u.toInt = 0) (e : x = fc k) (h : x.toInt = -1 ∨ d.toInt < x.toInt) : u.toInt = if onp fc fa fb fl fm p d k then 1 else 0 := by
  subst e; exact onp_0 hu (fun q => by omega)
theorem onp_0b {fc fa fb fl fm : Nat → Int32} {p d u x : Int32} {k : Nat} (hu : u.toInt = 0) (e : x = fa k) (h : x.toInt ≠ -1) : u.toInt = if onp fc fa fb fl fm p d k then 1 else 0 := by
  subst e; exact onp_0 hu (fun q => by omega)
theorem onp_0c {fc fa fb fl fm : Nat → Int32} {p d u x : Int32} {k : Nat} (hu : u.toInt = 0) (e : x = fb k) (h : x.toInt ≠ 0) : u.toInt = if onp fc fa fb fl fm p d k then 1 else 0 := by
  subst e; exact onp_0 hu (fun q => by omega)
theorem onp_0d {fc fa fb fl fm : Nat → Int32} {p d u x : Int32} {k : Nat} (hu : u.toInt = 0) (e : x = tof fl fm k) (h : x.toInt ≠ p.toInt) : u.toInt = if onp fc fa fb fl fm p d k then 1 else 0 := by
  subst e; exact onp_0 hu (fun q => by omega)
/-- what firstOf knows behind k letters -/
def fstI (P : Nat → Bool) (b : Int32) (n : Nat) : Prop := (b.toInt = -1 ∧ ctN P n = 0) ∨ (0 ≤ b.toInt ∧ b.toInt ≤ 48 ∧ P b.toNatClampNeg = true)
theorem fst_z {P : Nat → Bool} : fstI P (-1) (0 : Int32).toInt.toNat := Or.inl ⟨by decide, by rw [show (0 : Int32).toInt = 0 from by decide]; rfl⟩
theorem fst_no {P : Nat → Bool} {b k r : Int32} {n : Nat} (h : fstI P b k.toInt.toNat) (h0 : 0 ≤ k.toInt) (hn : (n : Int) = k.toInt + 1) (hr : r.toInt = if P k.toNatClampNeg then 1 else 0) (h1 : r.toInt = 0) : fstI P b n := by
  rcases h with ⟨h2, h3⟩ | h
  · refine Or.inl ⟨h2, ?_⟩
    have e : n = k.toInt.toNat + 1 := by omega
    have e3 : k.toNatClampNeg = k.toInt.toNat := rfl
    rw [e3] at hr
    rw [e]
    show ctN P k.toInt.toNat + (if P k.toInt.toNat then 1 else 0) = 0
    by_cases q : P k.toInt.toNat = true
    · rw [if_pos q] at hr; omega
    · rw [if_neg q, h3]
  · exact Or.inr h
theorem fst_yes {P : Nat → Bool} {k r : Int32} {n : Nat} (h0 : 0 ≤ k.toInt) (h1 : k.toInt ≤ 48) (hr : r.toInt = if P k.toNatClampNeg then 1 else 0) (h2 : r.toInt ≠ 0) : fstI P k n := by
  refine Or.inr ⟨h0, h1, ?_⟩
  by_cases q : P k.toNatClampNeg = true
  · exact q
  · rw [if_neg q] at hr; omega
theorem fst_same {P : Nat → Bool} {b : Int32} {m n : Nat} (h : fstI P b m) (hb : b.toInt ≠ -1) : fstI P b n := by
  rcases h with h | h
  · exact absurd h.1 hb
  · exact Or.inr h
theorem fst_next {P : Nat → Bool} {b k y : Int32} {n : Nat} (h : fstI P b n) (hn : (n : Int) = k.toInt + 1) (hy : y.toInt = k.toInt + 1) : fstI P b y.toInt.toNat := by
  rw [show y.toInt.toNat = n by omega]; exact h
/-- how many are answered -/
def cntA (f : Nat → Int32) : Int := ((ctN (fun k => decide ((f k).toInt ≠ -1)) 49 : Nat) : Int)
theorem cntA_le (f : Nat → Int32) : 0 ≤ cntA f ∧ cntA f ≤ 49 := by
  have := ctN_le (fun k => decide ((f k).toInt ≠ -1)) 49
  unfold cntA
  omega
theorem cntA_up {f : Nat → Int32} {a d : Int32} (h0 : 0 ≤ a.toInt) (h1 : a.toInt ≤ 48) (hf : (f a.toNatClampNeg).toInt = -1) (hd : d.toInt ≠ -1) : cntA (upd f a.toNatClampNeg d) = cntA f + 1 := by
  have e1 : a.toNatClampNeg = a.toInt.toNat := rfl
  have hp : (fun k => decide ((f k).toInt ≠ -1)) a.toNatClampNeg = false := by
    show decide ((f a.toNatClampNeg).toInt ≠ -1) = false
    exact decide_eq_false (fun q => q hf)
  have hc := ctN_upd (p := fun k => decide ((f k).toInt ≠ -1)) (i := a.toNatClampNeg) hp (n := 49) (by omega)
  unfold cntA
  rw [ctN_cong (q := fun k => if k = a.toNatClampNeg then true else (fun k => decide ((f k).toInt ≠ -1)) k) (n := 49) (fun k _ => ?_), hc]
  · omega
  · show decide ((upd f a.toNatClampNeg d k).toInt ≠ -1) = _
    unfold upd
    by_cases q : k = a.toNatClampNeg
    · rw [if_pos q, if_pos q]; exact decide_eq_true hd
    · rw [if_neg q, if_neg q]
theorem cntA_none {f : Nat → Int32} (h : ∀ k : Nat, k < 49 → (f k).toInt = -1) : cntA f = 0 := by
  unfold cntA
  rw [ctN_none (fun k hk => decide_eq_false (fun q => q (h k hk)))]
  rfl
theorem ctN_kth {p : Nat → Bool} : ∀ {n k : Nat}, k < ctN p n → ∃ i, i < n ∧ p i = true ∧ ctN p i = k
  | 0, k, h => absurd h (Nat.not_lt_zero k)
  | n + 1, k, h => by
    have e : ctN p (n + 1) = ctN p n + (if p n then 1 else 0) := rfl
    rw [e] at h
    rcases Nat.lt_or_ge k (ctN p n) with q | q
    · obtain ⟨i, h1, h2, h3⟩ := ctN_kth q
      exact ⟨i, by omega, h2, h3⟩
    · by_cases c : p n = true
      · rw [if_pos c] at h
        exact ⟨n, by omega, c, by omega⟩
      · rw [if_neg c] at h; omega
/-- the keys are different -/
def kinj (f : Nat → Int32) : Prop := ∀ i j : Nat, i < 49 → j < 49 → (f i).toInt = (f j).toInt → i = j
/-- of those on the pile, who comes ahead of k -/
def ahd (P : Nat → Bool) (f : Nat → Int32) (k : Nat) : Nat → Bool := fun o => P o && decide ((f o).toInt < (f k).toInt)
theorem ahd_lt {P : Nat → Bool} {f : Nat → Int32} {k : Nat} (hk : k < 49) (hP : P k = true) : ctN (ahd P f k) 49 < ctN P 49 := by
  refine ctN_strict (fun o _ h => ?_) k hk ?_ hP
  · unfold ahd at h
    exact (Bool.and_eq_true _ _ ▸ h).1
  · unfold ahd
    rw [decide_eq_false (by omega), Bool.and_false]
theorem ahd_mono {P : Nat → Bool} {f : Nat → Int32} {a b : Nat} (ha : a < 49) (hP : P a = true) (h : (f a).toInt < (f b).toInt) : ctN (ahd P f a) 49 < ctN (ahd P f b) 49 := by
  refine ctN_strict (fun o _ q => ?_) a ha ?_ ?_
  · unfold ahd at q ⊢
    rw [Bool.and_eq_true] at q ⊢
    exact ⟨q.1, decide_eq_true (by have := of_decide_eq_true q.2; omega)⟩
  · unfold ahd
    rw [decide_eq_false (by omega), Bool.and_false]
  · unfold ahd
    rw [hP, decide_eq_true h]; rfl
theorem ahd_onto {P : Nat → Bool} {f : Nat → Int32} (hk : kinj f) {i : Nat} (hi : i < ctN P 49) : ∃ k, k < 49 ∧ P k = true ∧ ctN (ahd P f k) 49 = i := by
  have hc : ∀ k : Nat, ∃ j : Nat, k < ctN P 49 → j < 49 ∧ P j = true ∧ ctN P j = k := fun k => by
    by_cases q : k < ctN P 49
    · obtain ⟨j, h1, h2, h3⟩ := ctN_kth q
      exact ⟨j, fun _ => ⟨h1, h2, h3⟩⟩
    · exact ⟨0, fun z => absurd z q⟩
  obtain ⟨e, he⟩ := Classical.axiomOfChoice hc
  obtain ⟨k, h1, h2⟩ := fb_onto (n := ctN P 49) (f := fun k => ctN (ahd P f (e k)) 49) (fun k h => ahd_lt (he k h).1 (he k h).2.1) (fun a b hab hb q => by
    have ha : a < ctN P 49 := by omega
    obtain ⟨a1, a2, a3⟩ := he a ha
    obtain ⟨b1, b2, b3⟩ := he b hb
    have q : ctN (ahd P f (e a)) 49 = ctN (ahd P f (e b)) 49 := q
    rcases Int.lt_trichotomy (f (e a)).toInt (f (e b)).toInt with z | z | z
    · have := ahd_mono (b := e b) a1 a2 z; omega
    · have := hk _ _ a1 b1 z
      rw [this] at a3
      omega
    · have := ahd_mono (b := e a) b1 b2 z; omega) hi
  exact ⟨e k, (he k h1).1, (he k h1).2.1, h2⟩
/-- nobody among the first n is the one that was drawn -/
def drI (P : Nat → Bool) (f : Nat → Int32) (i : Int) (n : Nat) : Prop := ∀ j : Nat, j < n → P j = true → ((ctN (ahd P f j) 49 : Nat) : Int) ≠ i
theorem dr_z {P : Nat → Bool} {f : Nat → Int32} {i : Int} : drI P f i (0 : Int32).toInt.toNat := fun j hj => absurd hj (by rw [show (0 : Int32).toInt = 0 from by decide]; exact Nat.not_lt_zero j)
theorem dr_end {P : Nat → Bool} {f : Nat → Int32} {i : Int32} {k : Int32} (h : drI P f i.toInt k.toInt.toNat) (hk : 49 ≤ k.toInt) (hf : kinj f) (h0 : 0 ≤ i.toInt) (h1 : i.toInt < ((ctN P 49 : Nat) : Int)) : False := by
  obtain ⟨j, j1, j2, j3⟩ := ahd_onto (P := P) hf (i := i.toInt.toNat) (by omega)
  exact h j (by omega) j2 (by omega)
theorem dr_off {P : Nat → Bool} {f : Nat → Int32} {i : Int} {k r y : Int32} (h : drI P f i k.toInt.toNat) (h0 : 0 ≤ k.toInt) (hy : y.toInt = k.toInt + 1) (hr : r.toInt = if P k.toNatClampNeg then 1 else 0) (h1 : r.toInt = 0) : drI P f i y.toInt.toNat := fun j hj hP => by
  have e3 : k.toNatClampNeg = k.toInt.toNat := rfl
  rcases Nat.lt_or_ge j k.toInt.toNat with q | q
  · exact h j q hP
  · have e : j = k.toNatClampNeg := by omega
    rw [← e, hP] at hr
    simp at hr
    omega
theorem dr_oth {P : Nat → Bool} {f : Nat → Int32} {i : Int} {k l y : Int32} (h : drI P f i k.toInt.toNat) (h0 : 0 ≤ k.toInt) (hy : y.toInt = k.toInt + 1) (hl : l.toInt = ((ctN (ahd P f k.toNatClampNeg) 49 : Nat) : Int)) (h1 : l.toInt ≠ i) : drI P f i y.toInt.toNat := fun j hj hP => by
  have e3 : k.toNatClampNeg = k.toInt.toNat := rfl
  rcases Nat.lt_or_ge j k.toInt.toNat with q | q
  · exact h j q hP
  · have e : j = k.toNatClampNeg := by omega
    rw [e, ← hl]
    exact h1
theorem on_of {P : Nat → Bool} {k r : Int32} (hr : r.toInt = if P k.toNatClampNeg then 1 else 0) (h : r.toInt ≠ 0) : P k.toNatClampNeg = true := by
  by_cases q : P k.toNatClampNeg = true
  · exact q
  · rw [if_neg q] at hr; omega
theorem dr_0 {P : Nat → Bool} {f : Nat → Int32} {kk : Nat} {n k y r mm : Int32} (hn : n.toInt = ((ctN (ahd P f kk) k.toInt.toNat : Nat) : Int)) (hk : 0 ≤ k.toInt) (hy : y.toInt = k.toInt + 1) (hr : r.toInt = if P k.toNatClampNeg then 1 else 0) (h1 : r.toInt = 0) (hm : mm.toInt = n.toInt) : mm.toInt = ((ctN (ahd P f kk) y.toInt.toNat : Nat) : Int) := by
  refine ct_s (r := 0) hn hk hy ?_ (by rw [show (0 : Int32).toInt = 0 from by decide]; omega)
  have q : ¬ P k.toNatClampNeg = true := fun q => by rw [if_pos q] at hr; omega
  rw [if_neg]
  · decide
  · unfold ahd
    intro z
    rw [Bool.and_eq_true] at z
    exact q z.1
theorem dr_1 {P : Nat → Bool} {f : Nat → Int32} {kk : Nat} {n k y xo xk mm : Int32} (hn : n.toInt = ((ctN (ahd P f kk) k.toInt.toNat : Nat) : Int)) (hk : 0 ≤ k.toInt) (hy : y.toInt = k.toInt + 1) (eo : xo = f k.toNatClampNeg) (ek : xk = f kk) (h1 : xk.toInt ≤ xo.toInt) (hm : mm.toInt = n.toInt) : mm.toInt = ((ctN (ahd P f kk) y.toInt.toNat : Nat) : Int) := by
  refine ct_s (r := 0) hn hk hy ?_ (by rw [show (0 : Int32).toInt = 0 from by decide]; omega)
  subst eo ek
  rw [if_neg]
  · decide
  · unfold ahd
    intro z
    rw [Bool.and_eq_true] at z
    have := of_decide_eq_true z.2
    omega
theorem dr_2 {P : Nat → Bool} {f : Nat → Int32} {kk : Nat} {n k y r xo xk mm : Int32} (hn : n.toInt = ((ctN (ahd P f kk) k.toInt.toNat : Nat) : Int)) (hk : 0 ≤ k.toInt) (hy : y.toInt = k.toInt + 1) (hr : r.toInt = if P k.toNatClampNeg then 1 else 0) (h0 : r.toInt ≠ 0) (eo : xo = f k.toNatClampNeg) (ek : xk = f kk) (h1 : xo.toInt < xk.toInt) (hm : mm.toInt = n.toInt + 1) : mm.toInt = ((ctN (ahd P f kk) y.toInt.toNat : Nat) : Int) := by
  refine ct_s (r := 1) hn hk hy ?_ (by rw [show (1 : Int32).toInt = 1 from by decide]; omega)
  have q := on_of hr h0
  subst eo ek
  rw [if_pos]
  · decide
  · unfold ahd
    rw [q, decide_eq_true h1]; rfl
/-- a letter of the pile: where it stands, and what is known of it -/
theorem onp_of {fc fa fb fl fm : Nat → Int32} {p d : Int32} {k : Nat} (h : onp fc fa fb fl fm p d k = true) : (fa k).toInt = -1 ∧ (tof fl fm k).toInt = p.toInt := by
  have := of_decide_eq_true h
  exact ⟨this.2.2.1, this.2.2.2.2⟩
theorem tof_in {fl fm : Nat → Int32} (hl : bdm 8 letL fl) (hm : bdm 4 morL fm) {k : Nat} (hk : k < 49) : 0 ≤ (tof fl fm k).toInt ∧ (tof fl fm k).toInt ≤ 7 := by
  unfold tof
  by_cases h1 : k = 48
  · rw [if_pos h1]; exact hm 1 (0, 7) (by decide)
  · rw [if_neg h1]
    by_cases h2 : k < 24
    · rw [if_pos h2]; exact hl _ (0, 7) (by rw [show (8 * k + 1) % 8 = 1 by omega]; decide)
    · rw [if_neg h2]; exact hl _ (0, 7) (by rw [show (8 * (k - 24)) % 8 = 0 by omega]; decide)
theorem kinj_id {f : Nat → Int32} (h : ∀ j : Nat, j < 49 → (f j).toInt = (j : Int)) : kinj f := fun i j hi hj e => by
  rw [h i hi, h j hj] at e
  omega
theorem fst_pos {P : Nat → Bool} {u : Int32} (h : fstI P u 49) (hc : 0 < ctN P 49) : 0 ≤ u.toInt ∧ u.toInt ≤ 48 ∧ P u.toNatClampNeg = true := by
  rcases h with h | h
  · omega
  · exact h
def aft (fl : Nat → Int32) (k : Nat) : Int32 := if k < 24 then fl (8 * k + 5) else -1
theorem aft_lo {fl : Nat → Int32} {a x i : Int32} (h0 : 0 ≤ a.toInt) (ha : a.toInt < 24) (hi : i.toInt = 8 * a.toInt + 5) (e : x = fl i.toNatClampNeg) : x = aft fl a.toNatClampNeg := by
  have e1 : a.toNatClampNeg = a.toInt.toNat := rfl
  have e2 : i.toNatClampNeg = i.toInt.toNat := rfl
  unfold aft
  rw [if_pos (by omega), e]
  exact congrArg fl (by omega)
theorem aft_hi {fl : Nat → Int32} {a : Int32} (ha : 24 ≤ a.toInt) : (-1 : Int32) = aft fl a.toNatClampNeg := by
  have e1 : a.toNatClampNeg = a.toInt.toNat := rfl
  unfold aft
  rw [if_neg (by omega)]
/-- the first n are -1 -/
def allm (f : Nat → Int32) (n : Nat) : Prop := ∀ j : Nat, j < n → (f j).toInt = -1
theorem allm_z {f : Nat → Int32} : allm f (0 : Int32).toInt.toNat := fun j hj => absurd hj (by rw [show (0 : Int32).toInt = 0 from by decide]; exact Nat.not_lt_zero j)
theorem allm_s {f g : Nat → Int32} {k y : Int32} (h : allm f k.toInt.toNat) (h0 : 0 ≤ k.toInt) (hy : y.toInt = k.toInt + 1) (e : upd f k.toNatClampNeg (-1) = g) : allm g y.toInt.toNat := fun j hj => by
  have e3 : k.toNatClampNeg = k.toInt.toNat := rfl
  subst e
  unfold upd
  by_cases q : j = k.toNatClampNeg
  · rw [if_pos q]; decide
  · rw [if_neg q]; exact h j (by omega)
theorem allm_c {f : Nat → Int32} {k : Int32} (h : allm f k.toInt.toNat) (hk : 49 ≤ k.toInt) : (0 : Int32).toInt = cntA f := by
  rw [cntA_none (fun j hj => h j (by omega))]
  decide
def keyI (f : Nat → Int32) (n : Nat) : Prop := ∀ j : Nat, j < n → (f j).toInt = (j : Int)
theorem keyI_z {f : Nat → Int32} : keyI f (0 : Int32).toInt.toNat := fun j hj => absurd hj (by rw [show (0 : Int32).toInt = 0 from by decide]; exact Nat.not_lt_zero j)
theorem keyI_s {f g : Nat → Int32} {k y : Int32} (h : keyI f k.toInt.toNat) (h0 : 0 ≤ k.toInt) (hy : y.toInt = k.toInt + 1) (e : upd f k.toNatClampNeg k = g) : keyI g y.toInt.toNat := fun j hj => by
  have e3 : k.toNatClampNeg = k.toInt.toNat := rfl
  subst e
  unfold upd
  by_cases q : j = k.toNatClampNeg
  · rw [if_pos q]; omega
  · rw [if_neg q]; exact h j (by omega)
theorem keyI_k {f : Nat → Int32} {k : Int32} (h : keyI f k.toInt.toNat) (hk : 49 ≤ k.toInt) : kinj f := kinj_id (fun j hj => h j (by omega))
/-- where lines are told there is a first day -/
def townd (fl fh : Nat → Int32) : Prop := ∀ r : Nat, r < 5 → (fl r).toInt ≠ 0 → 1 ≤ (fh (6 * r)).toInt
theorem townd.at {fl fh : Nat → Int32} {x : Int32} (h : townd fl fh) (hl : (fl (0 : Int32).toNatClampNeg).toInt ≠ 0) (e : x = fh (0 : Int32).toNatClampNeg) : 1 ≤ x.toInt := by
  have z0 : (0 : Int32).toNatClampNeg = 0 := by decide
  rw [z0] at hl e
  rw [e]
  exact h 0 (by decide) hl
theorem townd_upd {fl fh g : Nat → Int32} {k : Nat} {v : Int32} (h : townd fl fh) (hk : k % 6 ≠ 0) (e : upd fh k v = g) : townd fl g := fun r hr hl => by
  subst e
  unfold upd
  rw [if_neg (by omega)]
  exact h r hr hl
theorem townd_0 {fl fh g : Nat → Int32} (h : townd fl fh) (e : upd fl (4 : Int32).toNatClampNeg 0 = g) : townd g fh := fun r hr hl => by
  have z4 : (4 : Int32).toNatClampNeg = 4 := by decide
  subst e
  unfold upd at hl
  by_cases q : r = (4 : Int32).toNatClampNeg
  · rw [if_pos q] at hl; exact absurd hl (by decide)
  · rw [if_neg q] at hl; exact h r hr hl
/-- outside the place that is read into nothing has changed, and there a day is told -/
theorem townd_inc {fl fh gl gh : Nat → Int32} {v : Int32} (h : townd fl fh) (el : upd fl (4 : Int32).toNatClampNeg v = gl) (hh : ∀ r : Nat, r < 4 → gh (6 * r) = fh (6 * r)) (hd : 1 ≤ (gh 24).toInt) : townd gl gh := fun r hr hl => by
  have z4 : (4 : Int32).toNatClampNeg = 4 := by decide
  subst el
  rcases Nat.lt_or_ge r 4 with q | q
  · rw [hh r q]
    unfold upd at hl
    rw [if_neg (by omega)] at hl
    exact h r hr hl
  · have : r = 4 := by omega
    subst this
    exact hd
def lo24 (f g : Nat → Int32) : Prop := ∀ j : Nat, j < 24 → g j = f j
theorem lo24_s {f g h : Nat → Int32} {k v : Int32} (a : lo24 f g) (hk : 24 ≤ k.toInt) (e : upd g k.toNatClampNeg v = h) : lo24 f h := fun j hj => by
  have e1 : k.toNatClampNeg = k.toInt.toNat := rfl
  subst e
  unfold upd
  rw [if_neg (by omega)]
  exact a j hj
theorem townd_clr {fl fh gl gh : Nat → Int32} (h : townd fl fh) (el : upd fl (4 : Int32).toNatClampNeg 0 = gl) (hh : lo24 fh gh) : townd gl gh := fun r hr hl => by
  have z4 : (4 : Int32).toNatClampNeg = 4 := by decide
  subst el
  unfold upd at hl
  by_cases q : r = (4 : Int32).toNatClampNeg
  · rw [if_pos q] at hl; exact absurd (by decide) hl
  · rw [if_neg q] at hl
    rw [hh _ (by omega)]
    exact h r hr hl
def t84 (f g : Nat → Int32) : Prop := (∀ r : Nat, r < 4 → g (6 * r) = f (6 * r)) ∧ 1 ≤ (g 24).toInt
theorem t84_A {f g h : Nat → Int32} {v w : Int32} (e1 : upd f (24 : Int32).toNatClampNeg v = g) (e2 : upd g (25 : Int32).toNatClampNeg w = h) (hv : 1 ≤ v.toInt) : t84 f h := by
  have z4 : (24 : Int32).toNatClampNeg = 24 := by decide
  have z5 : (25 : Int32).toNatClampNeg = 25 := by decide
  subst e2 e1
  refine ⟨fun r hr => ?_, ?_⟩
  · unfold upd
    rw [if_neg (by omega), if_neg (by omega)]
  · unfold upd
    rw [if_neg (by omega), if_pos (by omega)]
    exact hv
def same6 (f g : Nat → Int32) : Prop := ∀ r : Nat, r < 5 → g (6 * r) = f (6 * r)
theorem same6_rf {f : Nat → Int32} : same6 f f := fun _ _ => rfl
theorem same6_tr {f g h : Nat → Int32} (a : same6 f g) (b : same6 g h) : same6 f h := fun r hr => (b r hr).trans (a r hr)
theorem same6_up {f g : Nat → Int32} {k : Nat} {v : Int32} (hk : k % 6 ≠ 0) (e : upd f k v = g) : same6 f g := fun r _ => by
  subst e
  unfold upd
  rw [if_neg (by omega)]
theorem t84_B {fl f g : Nat → Int32} {x : Int32} (h : townd fl f) (e : x = fl (4 : Int32).toNatClampNeg) (hx : x.toInt ≠ 0) (s : same6 f g) : t84 f g := by
  have z4 : (4 : Int32).toNatClampNeg = 4 := by decide
  rw [z4] at e
  refine ⟨fun r hr => s r (by omega), ?_⟩
  have := s 4 (by decide)
  rw [show (6 * 4) = 24 from rfl] at this
  rw [this]
  exact h 4 (by decide) (by rw [← e]; exact hx)
theorem townd_cpr {fl fh gl gh : Nat → Int32} {aa bb : Nat} (h : townd fl fh) (ha : aa < 5) (el : gl = cpr fl 1 aa bb) (eh : gh = cpr fh 6 aa bb) : townd gl gh := fun r hr hl => by
  subst el eh
  unfold cpr at hl ⊢
  by_cases q : r = bb
  · subst q
    rw [if_pos (by omega)] at hl
    rw [if_pos (by omega)]
    rw [show 6 * r - 6 * r + 6 * aa = 6 * aa by omega]
    rw [show r - 1 * r + 1 * aa = aa by omega] at hl
    exact h aa ha hl
  · rw [if_neg (by omega)] at hl
    rw [if_neg (by omega)]
    exact h r hr hl
/-- the rows of what is told that a line does not touch -/
theorem q_sz {v w : Int32} (h : v.toInt ≠ 0) (e : w = v &&& (v - 1)) : w.toBitVec.toNat < v.toBitVec.toNat := by
  have hv : v.toBitVec.toNat ≠ 0 := fun q => h (by
    have : v.toBitVec = 0#32 := BitVec.eq_of_toNat_eq (by rw [q]; rfl)
    show v.toBitVec.toInt = 0
    rw [this]; decide)
  have h1 : w.toBitVec.toNat ≤ (v - 1).toBitVec.toNat := by
    rw [e]
    show (v.toBitVec &&& (v - 1).toBitVec).toNat ≤ _
    rw [BitVec.toNat_and]
    exact Nat.and_le_right
  have h2 : (v - 1).toBitVec.toNat = v.toBitVec.toNat - 1 := by
    show (v.toBitVec - 1#32).toNat = _
    rw [BitVec.toNat_sub]
    have := v.toBitVec.isLt
    simp
    omega
  omega
def rgM (b : Int32) : Nat := ctN (fun j => !(bt b j)) 8
theorem rg_dec {b q x y z w : Int32} (h0 : 0 ≤ q.toInt) (h7 : q.toInt ≤ 7) (ex : x = b >>> (q &&& 31)) (ey : y = x &&& 1) (hy : y.toInt = 0) (ez : z = 1 <<< (q &&& 31)) (ew : w = b ||| z) : rgM w < rgM b := by
  have eq : q = nI q.toNatClampNeg := q_nIc h0
  have e1 : q.toNatClampNeg = q.toInt.toNat := rfl
  generalize hk : q.toNatClampNeg = k at eq
  have hk8 : k < 8 := by omega
  subst eq
  have y0 : y = 0 := q_inj (hy.trans (by decide))
  have b0 : bt b k = false := by
    have t : bt y 0 = false := by rw [y0]; exact b_0 0
    rw [ey, b_and, ex, b_sshr k (by omega) b (by omega), if_pos (by omega)] at t
    rw [Nat.add_zero, show bt 1 0 = true from by decide, Bool.and_true] at t
    exact t
  have wb : ∀ i, i < 8 → bt w i = (bt b i || decide (i = k)) := fun i hi => by
    rw [ew, b_or, ez, b_shl k (by omega) 1 (by omega)]
    congr 1
    have one : ∀ j, j < 8 → bt 1 j = decide (j = 0) := by decide
    by_cases c : k ≤ i
    · rw [decide_eq_true c, Bool.true_and, one _ (by omega)]
      exact decide_eq_decide.mpr ⟨fun _ => by omega, fun _ => by omega⟩
    · rw [decide_eq_false c, Bool.false_and]
      exact (decide_eq_false (by omega)).symm
  refine ctN_strict (fun i hi h => ?_) k hk8 ?_ ?_
  · show (!(bt b i)) = true
    have h : (!(bt w i)) = true := h
    rw [wb i hi] at h
    cases hb : bt b i <;> simp_all
  · show (!(bt w k)) = false
    rw [wb k hk8]
    simp
  · show (!(bt b k)) = true
    rw [b0]; rfl
/-- the row that is tried: so many of those that come, each once -/
def prm (fc ft : Nat → Int32) (cm k : Nat) (u : Int32) : Prop := ∃ σ : Nat → Nat, (∀ j : Nat, j < k → σ j < cm ∧ ft j = fc (σ j) ∧ bt u (σ j) = true) ∧ ∀ i j : Nat, i < k → j < k → σ i = σ j → i = j
def cinc (fc : Nat → Int32) (n : Nat) : Prop := ∀ i j : Nat, i < j → j < n → (fc i).toInt < (fc j).toInt
def prex (f g : Nat → Int32) (n : Nat) : Prop := ∀ j : Nat, j < n → g j = f j
theorem prm_0 {fc ft : Nat → Int32} {cm : Nat} {u : Int32} : prm fc ft cm (0 : Int32).toInt.toNat u := ⟨id, fun j hj => absurd hj (by rw [show (0 : Int32).toInt = 0 from by decide]; exact Nat.not_lt_zero j), fun i j hi => absurd hi (by rw [show (0 : Int32).toInt = 0 from by decide]; exact Nat.not_lt_zero i)⟩
theorem prm_pre {fc ft ft' : Nat → Int32} {cm k : Nat} {u : Int32} (h : prm fc ft cm k u) (hp : prex ft ft' k) : prm fc ft' cm k u := by
  obtain ⟨σ, h1, h2⟩ := h
  exact ⟨σ, fun j hj => ⟨(h1 j hj).1, (hp j hj).trans (h1 j hj).2.1, (h1 j hj).2.2⟩, h2⟩
theorem prex_rf {f : Nat → Int32} {n : Nat} : prex f f n := fun _ _ => rfl
theorem prex_st {f g h : Nat → Int32} {a x : Int32} {v : Int32} (p : prex f g a.toInt.toNat) (e : upd g a.toNatClampNeg v = h) : prex f h a.toInt.toNat := fun j hj => by
  have e1 : a.toNatClampNeg = a.toInt.toNat := rfl
  subst e
  unfold upd
  rw [if_neg (by omega)]
  exact p j hj
theorem prex_tr {f g h : Nat → Int32} {n m : Nat} (p : prex f g n) (q : prex g h m) (hm : n ≤ m) : prex f h n := fun j hj => (q j (by omega)).trans (p j hj)
theorem bt_un {b i x y : Int32} (h0 : 0 ≤ i.toInt) (h1 : i.toInt ≤ 30) (ex : x = b >>> (i &&& 31)) (ey : y = x &&& 1) (hy : y.toInt ≠ 1) : bt b i.toInt.toNat = false := by
  have eq : i = nI i.toNatClampNeg := q_nIc h0
  have e1 : i.toNatClampNeg = i.toInt.toNat := rfl
  cases hb : bt b i.toInt.toNat with
  | false => rfl
  | true =>
    refine absurd ?_ hy
    have : y = 1 := by
      refine b_ext (fun j hj => ?_)
      rw [ey, b_and, ex]
      have o : ∀ j, j < 32 → bt 1 j = decide (j = 0) := by decide
      rw [o j hj]
      by_cases z : j = 0
      · subst z
        rw [eq, b_sshr _ (by omega) b (by omega), if_pos (by omega), Nat.add_zero, e1, hb]; rfl
      · rw [decide_eq_false z, Bool.and_false]
    rw [this]; decide
theorem prm_s {fc ft ft' : Nat → Int32} {cm : Nat} {a i x b z u' c : Int32} (h : prm fc ft cm a.toInt.toNat b) (h0 : 0 ≤ i.toInt) (h1 : i.toInt < cm) (h6 : i.toInt ≤ 30) (ha : 0 ≤ a.toInt) (hx : x.toInt = a.toInt + 1) (hb : bt b i.toInt.toNat = false) (ec : c = fc i.toNatClampNeg) (et : upd ft a.toNatClampNeg c = ft') (ez : z = 1 <<< (i &&& 31)) (eu : u' = b ||| z) : prm fc ft' cm x.toInt.toNat u' := by
  have eq : i = nI i.toNatClampNeg := q_nIc h0
  have e1 : i.toNatClampNeg = i.toInt.toNat := rfl
  have e2 : a.toNatClampNeg = a.toInt.toNat := rfl
  have e3 : x.toInt.toNat = a.toInt.toNat + 1 := by omega
  obtain ⟨σ, p1, p2⟩ := h
  have ub : ∀ j, j < 31 → bt u' j = (bt b j || decide (j = i.toInt.toNat)) := fun j hj => by
    rw [eu, b_or, ez, eq, b_shl _ (by omega) 1 (by omega), ← eq]
    congr 1
    have one : ∀ j, j < 32 → bt 1 j = decide (j = 0) := by decide
    by_cases c : i.toNatClampNeg ≤ j
    · rw [decide_eq_true c, Bool.true_and, one _ (by omega)]
      exact decide_eq_decide.mpr ⟨fun _ => by omega, fun _ => by omega⟩
    · rw [decide_eq_false c, Bool.false_and]
      exact (decide_eq_false (by omega)).symm
  have mono : ∀ j, bt b j = true → j < 31 → bt u' j = true := fun j h hj => by rw [ub j hj, h]; rfl
  have lt31 : ∀ j, bt b (σ j) = true → σ j < 32 := fun j h => by
    rcases Nat.lt_or_ge (σ j) 32 with q | q
    · exact q
    · rw [b_big q] at h; cases h
  refine ⟨fun j => if j = a.toInt.toNat then i.toInt.toNat else σ j, fun j hj => ?_, fun p q hp hq e => ?_⟩
  · subst et
    unfold upd
    by_cases w : j = a.toInt.toNat
    · dsimp only
      rw [if_pos w, if_pos (by omega)]
      refine ⟨by omega, by rw [ec, e1], ?_⟩
      rw [ub _ (by omega)]
      simp
    · dsimp only
      rw [if_neg w, if_neg (by omega)]
      obtain ⟨r1, r2, r3⟩ := p1 j (by omega)
      refine ⟨r1, r2, ?_⟩
      have l := lt31 j r3
      rcases Nat.lt_or_ge (σ j) 31 with s | s
      · exact mono _ r3 s
      · have s31 : σ j = 31 := by omega
        rw [s31] at r3 ⊢
        rw [eu, b_or, r3]; rfl
  · dsimp only at e
    by_cases w1 : p = a.toInt.toNat <;> by_cases w2 : q = a.toInt.toNat
    · omega
    · rw [if_pos w1, if_neg w2] at e
      have := (p1 q (by omega)).2.2
      rw [← e, hb] at this; cases this
    · rw [if_neg w1, if_pos w2] at e
      have := (p1 p (by omega)).2.2
      rw [e, hb] at this; cases this
    · rw [if_neg w1, if_neg w2] at e
      exact p2 p q (by omega) (by omega) e
/-- the keys behind so many of the row -/
def keyP (fk ft fc : Nat → Int32) (n : Nat) : Prop := ∀ j : Nat, j < 49 → (∃ t, t < n ∧ (ft t).toInt = j ∧ (fk j).toInt = (fc t).toInt) ∨ ((∀ t, t < n → (ft t).toInt ≠ j) ∧ (fk j).toInt = j)
theorem keyP_0 {fk ft fc : Nat → Int32} (h : keyI fk 49) : keyP fk ft fc (0 : Int32).toInt.toNat := fun j hj => Or.inr ⟨fun t ht => absurd ht (by rw [show (0 : Int32).toInt = 0 from by decide]; exact Nat.not_lt_zero t), h j hj⟩
theorem keyP_s {fk fk' ft fc : Nat → Int32} {i y x c : Int32} (h : keyP fk ft fc i.toInt.toNat) (h0 : 0 ≤ i.toInt) (hy : y.toInt = i.toInt + 1) (ex : x = ft i.toNatClampNeg) (ec : c = fc i.toNatClampNeg) (hx : 0 ≤ x.toInt) (e : upd fk x.toNatClampNeg c = fk') : keyP fk' ft fc y.toInt.toNat := fun j hj => by
  have e1 : i.toNatClampNeg = i.toInt.toNat := rfl
  have e2 : x.toNatClampNeg = x.toInt.toNat := rfl
  subst e
  unfold upd
  by_cases w : j = x.toNatClampNeg
  · rw [if_pos w]
    exact Or.inl ⟨i.toNatClampNeg, by omega, by rw [← ex]; omega, by rw [ec]⟩
  · rw [if_neg w]
    rcases h j hj with ⟨t, t1, t2, t3⟩ | ⟨q1, q2⟩
    · exact Or.inl ⟨t, by omega, t2, t3⟩
    · refine Or.inr ⟨fun t ht => ?_, q2⟩
      by_cases z : t = i.toNatClampNeg
      · rw [z, ← ex]; omega
      · exact q1 t (by omega)
theorem keyP_k {fk ft fc : Nat → Int32} {n : Nat} {u : Int32} (h : keyP fk ft fc n) (hp : prm fc ft n n u) (hc : cinc fc n) : kinj fk := by
  obtain ⟨σ, p1, p2⟩ := hp
  have inj : ∀ a b, a < n → b < n → (fc a).toInt = (fc b).toInt → a = b := fun a b ha hb e => by
    rcases Nat.lt_trichotomy a b with q | q | q
    · have := hc a b q hb; omega
    · exact q
    · have := hc b a q ha; omega
  have mix : ∀ i j t : Nat, j < 49 → t < n → (ft t).toInt = i → (fk i).toInt = (fc t).toInt → (∀ t, t < n → (ft t).toInt ≠ j) → (fk j).toInt = j → (fk i).toInt = (fk j).toInt → False := fun i j t hj ht _ h2 h3 h4 h5 => by
    obtain ⟨s, s1, s2⟩ := fb_onto (n := n) (f := σ) (fun i hi => (p1 i hi).1) (fun a b hab hb e => absurd (p2 a b (by omega) hb e) (by omega)) ht
    have := (p1 s s1).2.1
    exact h3 s s1 (by rw [this, s2]; omega)
  intro i j hi hj e
  rcases h i hi with ⟨t, t1, t2, t3⟩ | ⟨q1, q2⟩ <;> rcases h j hj with ⟨s, s1, s2, s3⟩ | ⟨r1, r2⟩
  · have := inj t s t1 s1 (by omega)
    subst this; omega
  · exact (mix i j t hj t1 t2 t3 r1 r2 e).elim
  · exact (mix j i s hi s1 s2 s3 q1 q2 e.symm).elim
  · omega
/-- those that come, gathered among the first k letters -/
def cinI (fc : Nat → Int32) (n k : Nat) : Prop := cinc fc n ∧ ∀ i : Nat, i < n → (fc i).toInt < (k : Int)
theorem cinI_z {fc : Nat → Int32} : cinI fc (0 : Int32).toInt.toNat (0 : Int32).toInt.toNat := by
  rw [show (0 : Int32).toInt = 0 from by decide]
  exact ⟨fun i j _ h => absurd h (Nat.not_lt_zero j), fun i h => absurd h (Nat.not_lt_zero i)⟩
theorem cinI_no {fc : Nat → Int32} {n : Nat} {k y : Int32} (h : cinI fc n k.toInt.toNat) (h0 : 0 ≤ k.toInt) (hy : y.toInt = k.toInt + 1) : cinI fc n y.toInt.toNat := ⟨h.1, fun i hi => by have := h.2 i hi; omega⟩
theorem cinI_s {fc g : Nat → Int32} {n n' k y : Int32} (h : cinI fc n.toInt.toNat k.toInt.toNat) (h0 : 0 ≤ k.toInt) (hn : 0 ≤ n.toInt) (hy : y.toInt = k.toInt + 1) (hn' : n'.toInt = n.toInt + 1) (e : upd fc n.toNatClampNeg k = g) : cinI g n'.toInt.toNat y.toInt.toNat := by
  have e1 : n.toNatClampNeg = n.toInt.toNat := rfl
  subst e
  refine ⟨fun i j hij hj => ?_, fun i hi => ?_⟩
  · unfold upd
    by_cases w : j = n.toNatClampNeg
    · rw [if_neg (by omega), if_pos w]
      have := h.2 i (by omega); omega
    · rw [if_neg (by omega), if_neg w]
      exact h.1 i j hij (by omega)
  · unfold upd
    by_cases w : i = n.toNatClampNeg
    · rw [if_pos w]; omega
    · rw [if_neg w]
      have := h.2 i (by omega); omega
/-- does the tape hold a byte between two others at a place: 1, else 0 -/
def byt (f : Nat → Int32) (n a b c : Int32) : Int := if a.toInt < n.toInt ∧ b.toInt ≤ (f a.toNatClampNeg).toInt ∧ (f a.toNatClampNeg).toInt ≤ c.toInt then 1 else 0
theorem byt_1 {f : Nat → Int32} {n a b c x : Int32} {u : Int} (hu : u = 1) (h : a.toInt < n.toInt) (e : x = f a.toNatClampNeg) (h1 : b.toInt ≤ x.toInt) (h2 : x.toInt ≤ c.toInt) : u = byt f n a b c := by
  unfold byt
  rw [if_pos ⟨h, by rw [← e]; exact h1, by rw [← e]; exact h2⟩]
  exact hu
theorem byt_0a {f : Nat → Int32} {n a b c : Int32} {u : Int} (hu : u = 0) (h : n.toInt ≤ a.toInt) : u = byt f n a b c := by
  unfold byt
  rw [if_neg (fun q => absurd q.1 (by omega))]
  exact hu
theorem byt_0b {f : Nat → Int32} {n a b c x : Int32} {u : Int} (hu : u = 0) (e : x = f a.toNatClampNeg) (h : x.toInt < b.toInt ∨ c.toInt < x.toInt) : u = byt f n a b c := by
  unfold byt
  rw [if_neg (fun q => by rw [← e] at q; omega)]
  exact hu
/-- the reading of a town comes to an end -/
def mtw (b t a : Int) : Nat := if b ≠ 0 ∨ t = 0 then 0 else (2402 - a).toNat
theorem mtw_lt {b t a b' t' a' : Int} (hb : b = 0) (ht : t ≠ 0) (ha : a ≤ 2400) (h : b' ≠ 0 ∨ t' = 0 ∨ a < a') : mtw b' t' a' < mtw b t a := by
  unfold mtw
  rw [if_neg (show ¬ (b ≠ 0 ∨ t = 0) by omega)]
  by_cases q : b' ≠ 0 ∨ t' = 0
  · rw [if_pos q]; omega
  · rw [if_neg q]; omega
