def kpt (f g : Nat → Int32) : Prop := ∀ j : Nat, j < 3 → f j = g j
def kupd (f f2 : Nat → Int32) (a : Int32) : Prop := (0 ≤ a.toInt ∧ a.toInt < 3 ∧ f2 = upd f a.toNatClampNeg (vp_nar .boolean 1)) ∨ ((a.toInt < 0 ∨ 3 ≤ a.toInt) ∧ f2 = f)
theorem kupd_n {f : Nat → Int32} {a : Int32} (h : a.toInt < 0 ∨ 3 ≤ a.toInt) : kupd f f a := Or.inr ⟨h, rfl⟩
theorem kupd_y {f f2 : Nat → Int32} {a : Int32} (h : 0 ≤ a.toInt) (h3 : a.toInt < 3) (e : upd f a.toNatClampNeg (vp_nar .boolean 1) = f2) : kupd f f2 a := Or.inl ⟨h, h3, e.symm⟩
theorem kpt_up {f g f2 g2 : Nat → Int32} {a : Int32} (h : kpt f g) (hc : kupd f f2 a) (hm : kupd g g2 a) : kpt f2 g2 := by
  rcases hc with ⟨c0, c3, hf⟩ | ⟨c, hf⟩
  · rcases hm with ⟨_, _, hg⟩ | ⟨m, _⟩
    · intro j hj
      rw [hf, hg]
      by_cases q : j = a.toNatClampNeg
      · rw [q, pk_us, pk_us]
      · rw [pk_un q, pk_un q]; exact h j hj
    · omega
  · rcases hm with ⟨m0, m3, _⟩ | ⟨_, hg⟩
    · omega
    · rw [hf, hg]; exact h
def bkA (f : Nat → Int32) (a u : Int32) : Prop := (u.toInt = -2 ∧ (a.toInt < 0 ∨ 3 ≤ a.toInt)) ∨ ((0 ≤ a.toInt ∧ a.toInt < 3) ∧ ((u.toInt = -6 ∧ (f a.toNatClampNeg).toInt = 0) ∨ (u.toInt = 0 ∧ (f a.toNatClampNeg).toInt ≠ 0)))
theorem bkA_o {f : Nat → Int32} {a u : Int32} (hu : u.toInt = -2) (h : a.toInt < 0 ∨ 3 ≤ a.toInt) : bkA f a u := Or.inl ⟨hu, h⟩
theorem bkA_n {f : Nat → Int32} {a u v : Int32} (hu : u.toInt = -6) (h : 0 ≤ a.toInt ∧ a.toInt < 3) (e : v = f a.toNatClampNeg) (hv : v.toInt = 0) : bkA f a u := Or.inr ⟨h, Or.inl ⟨hu, by rw [← e]; exact hv⟩⟩
theorem bkA_y {f : Nat → Int32} {a u v : Int32} (hu : u.toInt = 0) (h : 0 ≤ a.toInt ∧ a.toInt < 3) (e : v = f a.toNatClampNeg) (hv : v.toInt ≠ 0) : bkA f a u := Or.inr ⟨h, Or.inr ⟨hu, by rw [← e]; exact hv⟩⟩
theorem toI_lt {a : Int32} {n : Nat} (h0 : 0 ≤ a.toInt) (h : a.toInt < (n : Int)) : a.toNatClampNeg < n := by
  have hcl : a.toNatClampNeg = a.toInt.toNat := rfl
  omega
theorem bk_eq {f g : Nat → Int32} {a u w : Int32} (h : kpt f g) (hc : bkA f a u) (hm : bkA g a w) : u.toInt = w.toInt := by
  unfold bkA at hc hm
  rcases hc with hc | ⟨⟨h0, h3⟩, hc⟩
  · rcases hm with hm | hm <;> omega
  · have e := h a.toNatClampNeg (toI_lt (n := 3) h0 h3)
    rw [e] at hc
    omega
/-- a slot on both sides -/
def slR (us wd ln : Int32) (fw fm : Nat → Int32) (k : Nat) : Prop := (us.toInt = 0 ∧ (fw k).toInt = -1) ∨ (us.toInt ≠ 0 ∧ 0 ≤ wd.toInt ∧ (fw k).toInt = wd.toInt ∧ (fm k).toInt = ln.toInt)
theorem slR_0 {us wd ln : Int32} {fw fm : Nat → Int32} {k : Nat} (hu : us = 0) (hw : fw k = -1) : slR us wd ln fw fm k := Or.inl ⟨by rw [hu]; decide, by rw [hw]; decide⟩
def slP (k : Int) (a b d u us us2 wd wd2 ln ln2 : Int32) : Prop := (u.toInt = 0 ∧ a.toInt = k ∧ us2.toInt ≠ 0 ∧ wd2.toInt = b.toInt ∧ ln2.toInt = d.toInt) ∨ ((u.toInt ≠ 0 ∨ a.toInt ≠ k) ∧ us2.toInt = us.toInt ∧ wd2.toInt = wd.toInt ∧ ln2.toInt = ln.toInt)
theorem slP_mk {k : Int} {a b d u us us2 wd wd2 ln ln2 : Int32} (h : (u.toInt = 0 ∧ a.toInt = k ∧ us2.toInt ≠ 0 ∧ wd2.toInt = b.toInt ∧ ln2.toInt = d.toInt) ∨ ((u.toInt ≠ 0 ∨ a.toInt ≠ k) ∧ us2.toInt = us.toInt ∧ wd2.toInt = wd.toInt ∧ ln2.toInt = ln.toInt)) : slP k a b d u us us2 wd wd2 ln ln2 := h
def rwM (fw fw2 fm fm2 : Nat → Int32) (a b d u : Int32) : Prop := (u.toInt ≠ 0 ∧ fw2 = fw ∧ fm2 = fm) ∨ (u.toInt = 0 ∧ 0 ≤ a.toInt ∧ 0 ≤ b.toInt ∧ fw2 = upd fw a.toNatClampNeg b ∧ fm2 = upd fm a.toNatClampNeg d)
theorem rwM_n {fw fm : Nat → Int32} {a b d u : Int32} (h : u.toInt ≠ 0) : rwM fw fw fm fm a b d u := Or.inl ⟨h, rfl, rfl⟩
theorem rwM_y {fw fw2 fm fm2 : Nat → Int32} {a b d u : Int32} (h : u.toInt = 0) (ha : 0 ≤ a.toInt) (hb : 0 ≤ b.toInt) (ew : upd fw a.toNatClampNeg b = fw2) (em : upd fm a.toNatClampNeg d = fm2) : rwM fw fw2 fm fm2 a b d u := Or.inr ⟨h, ha, hb, ew.symm, em.symm⟩
theorem slR_row {k : Nat} {K : Int} {a b d u w us us2 wd wd2 ln ln2 : Int32} {fw fw2 fm fm2 : Nat → Int32} (hK : K = (k : Int)) (hr : slR us wd ln fw fm k) (hc : slP K a b d u us us2 wd wd2 ln ln2) (hm : rwM fw fw2 fm fm2 a b d w) (hu : u.toInt = w.toInt) : slR us2 wd2 ln2 fw2 fm2 k := by
  rcases hm with ⟨hn, e1, e2⟩ | ⟨h0, ha, hb, e1, e2⟩
  · rw [e1, e2]
    unfold slR at hr ⊢
    unfold slP at hc
    omega
  · have hcl : a.toNatClampNeg = a.toInt.toNat := rfl
    by_cases q : k = a.toNatClampNeg
    · have w1 : fw2 k = b := by rw [e1, q, pk_us]
      have w2 : fm2 k = d := by rw [e2, q, pk_us]
      unfold slR
      rw [w1, w2]
      unfold slP at hc
      right
      omega
    · have w1 : fw2 k = fw k := by rw [e1, pk_un q]
      have w2 : fm2 k = fm k := by rw [e2, pk_un q]
      unfold slR at hr ⊢
      rw [w1, w2]
      unfold slP at hc
      omega
def slO (a u : Int32) : Prop := (u.toInt = -2 ∧ (a.toInt < 0 ∨ 4 ≤ a.toInt)) ∨ (0 ≤ a.toInt ∧ a.toInt ≤ 3)
theorem slO_mk {a u : Int32} (h : (u.toInt = -2 ∧ (a.toInt < 0 ∨ 4 ≤ a.toInt)) ∨ (0 ≤ a.toInt ∧ a.toInt ≤ 3)) : slO a u := h
def wrC (k : Int) (a b u us ln : Int32) : Prop := a.toInt ≠ k ∨ (u.toInt = -6 ∧ us.toInt = 0) ∨ (u.toInt = -7 ∧ us.toInt ≠ 0 ∧ (b.toInt < 0 ∨ ln.toInt ≤ b.toInt)) ∨ (u.toInt = 0 ∧ us.toInt ≠ 0 ∧ 0 ≤ b.toInt ∧ b.toInt < ln.toInt)
theorem wrC_mk {k : Int} {a b u us ln : Int32} (h : a.toInt ≠ k ∨ (u.toInt = -6 ∧ us.toInt = 0) ∨ (u.toInt = -7 ∧ us.toInt ≠ 0 ∧ (b.toInt < 0 ∨ ln.toInt ≤ b.toInt)) ∨ (u.toInt = 0 ∧ us.toInt ≠ 0 ∧ 0 ≤ b.toInt ∧ b.toInt < ln.toInt)) : wrC k a b u us ln := h
def wrM (fw fm : Nat → Int32) (a b u : Int32) : Prop := (u.toInt = -2 ∧ (a.toInt < 0 ∨ 4 ≤ a.toInt)) ∨ ((0 ≤ a.toInt ∧ a.toInt ≤ 3) ∧ ((u.toInt = -6 ∧ (fw a.toNatClampNeg).toInt = -1) ∨ ((fw a.toNatClampNeg).toInt ≠ -1 ∧ ((u.toInt = -7 ∧ (b.toInt < 0 ∨ (fm a.toNatClampNeg).toInt ≤ b.toInt)) ∨ (u.toInt = 0 ∧ 0 ≤ b.toInt ∧ b.toInt < (fm a.toNatClampNeg).toInt)))))
theorem wrM_o {fw fm : Nat → Int32} {a b u : Int32} (hu : u.toInt = -2) (h : a.toInt < 0 ∨ 4 ≤ a.toInt) : wrM fw fm a b u := Or.inl ⟨hu, h⟩
theorem wrM_6 {fw fm : Nat → Int32} {a b u v : Int32} (hu : u.toInt = -6) (h : 0 ≤ a.toInt ∧ a.toInt ≤ 3) (e : v = fw a.toNatClampNeg) (hv : v.toInt = -1) : wrM fw fm a b u := Or.inr ⟨h, Or.inl ⟨hu, by rw [← e]; exact hv⟩⟩
theorem wrM_7 {fw fm : Nat → Int32} {a b u v w : Int32} (hu : u.toInt = -7) (h : 0 ≤ a.toInt ∧ a.toInt ≤ 3) (e : v = fw a.toNatClampNeg) (hv : v.toInt ≠ -1) (e2 : w = fm a.toNatClampNeg) (hw : b.toInt < 0 ∨ w.toInt ≤ b.toInt) : wrM fw fm a b u := Or.inr ⟨h, Or.inr ⟨by rw [← e]; exact hv, Or.inl ⟨hu, by rw [← e2]; exact hw⟩⟩⟩
theorem wrM_y {fw fm : Nat → Int32} {a b u v w : Int32} (hu : u.toInt = 0) (h : 0 ≤ a.toInt ∧ a.toInt ≤ 3) (e : v = fw a.toNatClampNeg) (hv : v.toInt ≠ -1) (e2 : w = fm a.toNatClampNeg) (hw : 0 ≤ b.toInt ∧ b.toInt < w.toInt) : wrM fw fm a b u := Or.inr ⟨h, Or.inr ⟨by rw [← e]; exact hv, Or.inr ⟨hu, by rw [← e2]; exact hw⟩⟩⟩
theorem clN {a : Int32} {k : Nat} (h : a.toInt = (k : Int)) : a.toNatClampNeg = k := by
  have hcl : a.toNatClampNeg = a.toInt.toNat := rfl
  omega
theorem wr_k {k : Nat} {K : Int} {us wd ln a b u w : Int32} {fw fm : Nat → Int32} (hK : K = (k : Int)) (hk4 : k < 4) (r : slR us wd ln fw fm k) (c : wrC K a b u us ln) (m : wrM fw fm a b w) (ha : a.toInt = (k : Int)) : u.toInt = w.toInt := by
  have hcl : a.toNatClampNeg = k := clN ha
  unfold wrM at m
  rw [hcl] at m
  unfold slR at r
  unfold wrC at c
  omega
theorem wr_eq {us0 wd0 ln0 us1 wd1 ln1 us2 wd2 ln2 us3 wd3 ln3 a b u w : Int32} {fw fm : Nat → Int32} (r0 : slR us0 wd0 ln0 fw fm 0) (r1 : slR us1 wd1 ln1 fw fm 1) (r2 : slR us2 wd2 ln2 fw fm 2) (r3 : slR us3 wd3 ln3 fw fm 3) (o : slO a u) (c0 : wrC 0 a b u us0 ln0) (c1 : wrC 1 a b u us1 ln1) (c2 : wrC 2 a b u us2 ln2) (c3 : wrC 3 a b u us3 ln3) (m : wrM fw fm a b w) : u.toInt = w.toInt := by
  rcases o with ⟨h, ho⟩ | ⟨h0, h3⟩
  · rcases m with ⟨hm, _⟩ | ⟨hm, _⟩
    · omega
    · omega
  · rcases (show a.toInt = ((0 : Nat) : Int) ∨ a.toInt = ((1 : Nat) : Int) ∨ a.toInt = ((2 : Nat) : Int) ∨ a.toInt = ((3 : Nat) : Int) by omega) with h | h | h | h
    · exact wr_k (by decide) (by decide) r0 c0 m h
    · exact wr_k (by decide) (by decide) r1 c1 m h
    · exact wr_k (by decide) (by decide) r2 c2 m h
    · exact wr_k (by decide) (by decide) r3 c3 m h
def slf (w0 w1 w2 w3 : Int32) : Nat → Int32 := fun k => if k = 0 then w0 else if k = 1 then w1 else if k = 2 then w2 else w3
theorem slf_0 {w0 w1 w2 w3 a : Int32} (h : a.toInt = 0) : slf w0 w1 w2 w3 a.toNatClampNeg = w0 := by rw [clN (k := 0) h]; rfl
theorem slf_1 {w0 w1 w2 w3 a : Int32} (h : a.toInt = 1) : slf w0 w1 w2 w3 a.toNatClampNeg = w1 := by rw [clN (k := 1) h]; rfl
theorem slf_2 {w0 w1 w2 w3 a : Int32} (h : a.toInt = 2) : slf w0 w1 w2 w3 a.toNatClampNeg = w2 := by rw [clN (k := 2) h]; rfl
theorem slf_3 {w0 w1 w2 w3 a : Int32} (h : a.toInt = 3) : slf w0 w1 w2 w3 a.toNatClampNeg = w3 := by rw [clN (k := 3) h]; rfl
def pst (z : Int) (U W L : Nat → Int32) (a b d g h u : Int32) : Prop := (u.toInt = -2 ∧ (a.toInt < 0 ∨ 4 ≤ a.toInt ∨ d.toInt < 0 ∨ 4 ≤ d.toInt)) ∨ ((0 ≤ a.toInt ∧ a.toInt ≤ 3 ∧ 0 ≤ d.toInt ∧ d.toInt ≤ 3) ∧ ((u.toInt = -6 ∧ ((U a.toNatClampNeg).toInt = z ∨ (U d.toNatClampNeg).toInt = z)) ∨ (((U a.toNatClampNeg).toInt ≠ z ∧ (U d.toNatClampNeg).toInt ≠ z) ∧ ((u.toInt = -8 ∧ (W a.toNatClampNeg).toInt ≠ (W d.toNatClampNeg).toInt) ∨ ((W a.toNatClampNeg).toInt = (W d.toNatClampNeg).toInt ∧ ((u.toInt = -7 ∧ (b.toInt < 0 ∨ g.toInt < 0 ∨ h.toInt < 0 ∨ (L a.toNatClampNeg).toInt < b.toInt + h.toInt ∨ (L d.toNatClampNeg).toInt < g.toInt + h.toInt)) ∨ (u.toInt = 0 ∧ 0 ≤ b.toInt ∧ 0 ≤ g.toInt ∧ 0 ≤ h.toInt ∧ b.toInt + h.toInt ≤ (L a.toNatClampNeg).toInt ∧ g.toInt + h.toInt ≤ (L d.toNatClampNeg).toInt)))))))
theorem pst_o {z : Int} {U W L : Nat → Int32} {a b d g h u : Int32} (hu : u.toInt = -2) (k : a.toInt < 0 ∨ 4 ≤ a.toInt ∨ d.toInt < 0 ∨ 4 ≤ d.toInt) : pst z U W L a b d g h u := Or.inl ⟨hu, k⟩
theorem pst_mk {z : Int} {U W L : Nat → Int32} {a b d g h u ua ud wa wd la ld : Int32} (e1 : U a.toNatClampNeg = ua) (e2 : U d.toNatClampNeg = ud) (e3 : W a.toNatClampNeg = wa) (e4 : W d.toNatClampNeg = wd) (e5 : L a.toNatClampNeg = la) (e6 : L d.toNatClampNeg = ld) (h0 : 0 ≤ a.toInt ∧ a.toInt ≤ 3 ∧ 0 ≤ d.toInt ∧ d.toInt ≤ 3) (k : (u.toInt = -6 ∧ (ua.toInt = z ∨ ud.toInt = z)) ∨ ((ua.toInt ≠ z ∧ ud.toInt ≠ z) ∧ ((u.toInt = -8 ∧ wa.toInt ≠ wd.toInt) ∨ (wa.toInt = wd.toInt ∧ ((u.toInt = -7 ∧ (b.toInt < 0 ∨ g.toInt < 0 ∨ h.toInt < 0 ∨ la.toInt < b.toInt + h.toInt ∨ ld.toInt < g.toInt + h.toInt)) ∨ (u.toInt = 0 ∧ 0 ≤ b.toInt ∧ 0 ≤ g.toInt ∧ 0 ≤ h.toInt ∧ b.toInt + h.toInt ≤ la.toInt ∧ g.toInt + h.toInt ≤ ld.toInt)))))) : pst z U W L a b d g h u := by
  refine Or.inr ⟨h0, ?_⟩
  rw [e1, e2, e3, e4, e5, e6]
  exact k
theorem pst_6a {z : Int} {U W L : Nat → Int32} {a b d g h u v : Int32} (hu : u.toInt = -6) (h0 : 0 ≤ a.toInt ∧ a.toInt ≤ 3 ∧ 0 ≤ d.toInt ∧ d.toInt ≤ 3) (e : v = U a.toNatClampNeg) (hv : v.toInt = z) : pst z U W L a b d g h u := Or.inr ⟨h0, Or.inl ⟨hu, Or.inl (by rw [← e]; exact hv)⟩⟩
theorem pst_6d {z : Int} {U W L : Nat → Int32} {a b d g h u v : Int32} (hu : u.toInt = -6) (h0 : 0 ≤ a.toInt ∧ a.toInt ≤ 3 ∧ 0 ≤ d.toInt ∧ d.toInt ≤ 3) (e : v = U d.toNatClampNeg) (hv : v.toInt = z) : pst z U W L a b d g h u := Or.inr ⟨h0, Or.inl ⟨hu, Or.inr (by rw [← e]; exact hv)⟩⟩
theorem pst_8 {z : Int} {U L : Nat → Int32} {a b d g h u v w : Int32} (hu : u.toInt = -8) (h0 : 0 ≤ a.toInt ∧ a.toInt ≤ 3 ∧ 0 ≤ d.toInt ∧ d.toInt ≤ 3) (e : v = U a.toNatClampNeg) (e2 : w = U d.toNatClampNeg) (hv : v.toInt ≠ z) (hw : w.toInt ≠ z) (k : v.toInt ≠ w.toInt) : pst z U U L a b d g h u := by
  refine Or.inr ⟨h0, ?_⟩
  rw [← e, ← e2]
  exact Or.inr ⟨⟨hv, hw⟩, Or.inl ⟨hu, k⟩⟩
theorem pst_7a {z : Int} {U L : Nat → Int32} {a b d g h u v w : Int32} (hu : u.toInt = -7) (h0 : 0 ≤ a.toInt ∧ a.toInt ≤ 3 ∧ 0 ≤ d.toInt ∧ d.toInt ≤ 3) (e : v = U a.toNatClampNeg) (e2 : w = U d.toNatClampNeg) (hv : v.toInt ≠ z) (hw : w.toInt ≠ z) (k : v.toInt = w.toInt) (q : b.toInt < 0 ∨ g.toInt < 0 ∨ h.toInt < 0) : pst z U U L a b d g h u := by
  refine Or.inr ⟨h0, ?_⟩
  rw [← e, ← e2]
  exact Or.inr ⟨⟨hv, hw⟩, Or.inr ⟨k, Or.inl ⟨hu, by omega⟩⟩⟩
theorem pst_7b {z : Int} {U L : Nat → Int32} {a b d g h u v w x : Int32} (hu : u.toInt = -7) (h0 : 0 ≤ a.toInt ∧ a.toInt ≤ 3 ∧ 0 ≤ d.toInt ∧ d.toInt ≤ 3) (e : v = U a.toNatClampNeg) (e2 : w = U d.toNatClampNeg) (hv : v.toInt ≠ z) (hw : w.toInt ≠ z) (k : v.toInt = w.toInt) (e3 : x = L a.toNatClampNeg) (q : x.toInt < b.toInt + h.toInt) : pst z U U L a b d g h u := by
  refine Or.inr ⟨h0, ?_⟩
  rw [← e, ← e2, ← e3]
  exact Or.inr ⟨⟨hv, hw⟩, Or.inr ⟨k, Or.inl ⟨hu, Or.inr (Or.inr (Or.inr (Or.inl q)))⟩⟩⟩
theorem pst_7c {z : Int} {U L : Nat → Int32} {a b d g h u v w x : Int32} (hu : u.toInt = -7) (h0 : 0 ≤ a.toInt ∧ a.toInt ≤ 3 ∧ 0 ≤ d.toInt ∧ d.toInt ≤ 3) (e : v = U a.toNatClampNeg) (e2 : w = U d.toNatClampNeg) (hv : v.toInt ≠ z) (hw : w.toInt ≠ z) (k : v.toInt = w.toInt) (e3 : x = L d.toNatClampNeg) (q : x.toInt < g.toInt + h.toInt) : pst z U U L a b d g h u := by
  refine Or.inr ⟨h0, ?_⟩
  rw [← e, ← e2, ← e3]
  exact Or.inr ⟨⟨hv, hw⟩, Or.inr ⟨k, Or.inl ⟨hu, Or.inr (Or.inr (Or.inr (Or.inr q)))⟩⟩⟩
theorem pst_y {z : Int} {U L : Nat → Int32} {a b d g h u v w x y : Int32} (hu : u.toInt = 0) (h0 : 0 ≤ a.toInt ∧ a.toInt ≤ 3 ∧ 0 ≤ d.toInt ∧ d.toInt ≤ 3) (e : v = U a.toNatClampNeg) (e2 : w = U d.toNatClampNeg) (hv : v.toInt ≠ z) (hw : w.toInt ≠ z) (k : v.toInt = w.toInt) (e3 : x = L a.toNatClampNeg) (e4 : y = L d.toNatClampNeg) (q : 0 ≤ b.toInt ∧ 0 ≤ g.toInt ∧ 0 ≤ h.toInt ∧ b.toInt + h.toInt ≤ x.toInt ∧ g.toInt + h.toInt ≤ y.toInt) : pst z U U L a b d g h u := by
  refine Or.inr ⟨h0, ?_⟩
  rw [← e, ← e2, ← e3, ← e4]
  exact Or.inr ⟨⟨hv, hw⟩, Or.inr ⟨k, Or.inr ⟨hu, q⟩⟩⟩
theorem slR_at {u0 u1 u2 u3 w0 w1 w2 w3 l0 l1 l2 l3 a : Int32} {fw fm : Nat → Int32} (r0 : slR u0 w0 l0 fw fm 0) (r1 : slR u1 w1 l1 fw fm 1) (r2 : slR u2 w2 l2 fw fm 2) (r3 : slR u3 w3 l3 fw fm 3) (h0 : 0 ≤ a.toInt) (h3 : a.toInt ≤ 3) : slR (slf u0 u1 u2 u3 a.toNatClampNeg) (slf w0 w1 w2 w3 a.toNatClampNeg) (slf l0 l1 l2 l3 a.toNatClampNeg) fw fm a.toNatClampNeg := by
  rcases (show a.toInt = ((0 : Nat) : Int) ∨ a.toInt = ((1 : Nat) : Int) ∨ a.toInt = ((2 : Nat) : Int) ∨ a.toInt = ((3 : Nat) : Int) by omega) with h | h | h | h
  · rw [clN h]; exact r0
  · rw [clN h]; exact r1
  · rw [clN h]; exact r2
  · rw [clN h]; exact r3
theorem pst_eq {u0 u1 u2 u3 w0 w1 w2 w3 l0 l1 l2 l3 a b d g h u v : Int32} {fw fm : Nat → Int32} (r0 : slR u0 w0 l0 fw fm 0) (r1 : slR u1 w1 l1 fw fm 1) (r2 : slR u2 w2 l2 fw fm 2) (r3 : slR u3 w3 l3 fw fm 3) (hc : pst 0 (slf u0 u1 u2 u3) (slf w0 w1 w2 w3) (slf l0 l1 l2 l3) a b d g h u) (hm : pst (-1) fw fw fm a b d g h v) : u.toInt = v.toInt := by
  rcases hc with ⟨hc, ho⟩ | ⟨⟨p0, p3, q0, q3⟩, hc⟩
  · rcases hm with ⟨hm, _⟩ | ⟨hm, _⟩
    · omega
    · omega
  · rcases hm with ⟨_, hm⟩ | ⟨_, hm⟩
    · omega
    · have ra := slR_at r0 r1 r2 r3 p0 p3
      have rd := slR_at r0 r1 r2 r3 q0 q3
      unfold slR at ra rd
      omega
