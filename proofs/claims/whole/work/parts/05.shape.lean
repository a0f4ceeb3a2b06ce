/-- x is one of 0 .. n - 1 -/
abbrev inx (n : Nat) (x : Int32) : Prop := 0 ≤ x.toInt ∧ x.toInt < (n : Int)
theorem inx_c {n : Nat} {x : Int32} (h : inx n x) : x.toNatClampNeg < n ∧ x.toNatClampNeg < 2147483648 := by
  have h1 : x.toNatClampNeg = x.toInt.toNat := rfl
  have h2 := Int32.toInt_lt x
  obtain ⟨h3, h4⟩ := h
  omega
theorem inx_e {n : Nat} {x : Int32} (h : inx n x) : x = nI x.toNatClampNeg := by
  apply Int32.toInt_inj.mp
  rw [nI_toInt (inx_c h).2]
  have h1 : x.toNatClampNeg = x.toInt.toNat := rfl
  have := h.1
  omega
theorem inx_n {n t : Nat} (h : t < n) (hn : n < 2147483648) : inx n (nI t) := by
  have h1 := nI_toInt (n := t) (by omega)
  exact ⟨by omega, by omega⟩
theorem inx_v {n : Nat} {x : Int32} : vp_in x n ↔ inx n x := vp_in_iff
theorem nI_m1 {n : Nat} (hn : n < 1000000) : (nI n - 1).toInt = (n : Int) - 1 := by
  have h := pk_sub_toInt (a := n) (b := 1) (by omega) (by omega)
  exact h
theorem inx_w {n : Nat} {x : Int32} (hn : n < 1000000) : (0 ≤ x ∧ x ≤ nI n - 1) ↔ inx n x := by
  rw [Int32.le_iff_toInt_le, Int32.le_iff_toInt_le, nI_m1 hn]
  have h0 : (0 : Int32).toInt = 0 := by decide
  rw [h0]
  constructor
  · intro h; exact ⟨h.1, by omega⟩
  · intro h; exact ⟨h.1, by omega⟩
theorem inx_l {n : Nat} {x : Int32} (hn : n < 1000000) : ((0 : Int64) ≤ x.toInt64 ∧ x.toInt64 ≤ (nI n - 1).toInt64) ↔ inx n x := by
  rw [Int64.le_iff_toInt_le, Int64.le_iff_toInt_le, Int32.toInt_toInt64, Int32.toInt_toInt64, nI_m1 hn]
  have h0 : (0 : Int64).toInt = 0 := by decide
  rw [h0]
  constructor
  · intro h; exact ⟨h.1, by omega⟩
  · intro h; exact ⟨h.1, by omega⟩
theorem wid_l {x : Int32} {a b : Int64} {c d : Int32} (ha : a = c.toInt64) (hb : b = d.toInt64) : (a ≤ x.toInt64 ∧ x.toInt64 ≤ b) ↔ (c ≤ x ∧ x ≤ d) := by
  subst ha hb
  rw [Int64.le_iff_toInt_le, Int64.le_iff_toInt_le, Int32.toInt_toInt64, Int32.toInt_toInt64, Int32.toInt_toInt64, Int32.le_iff_toInt_le, Int32.le_iff_toInt_le]
/-! what the class's world is: labels 0 .. 15 fixed, 16 and 17 the lists' rows, 100 + i pipes, 200 + j dials -/
def xkd (k : Nat) : Nat := match k with
  | 0 => 8 | 1 => 0 | 2 => 0 | 3 => 3 | 4 => 2 | 5 => 10 | 6 => 10 | 7 => 10 | 8 => 6 | 9 => 11 | 10 => 5 | 11 => 10 | 12 => 10 | 13 => 10 | 14 => 7 | _ => 10
def xln (k : Nat) : Nat := match k with
  | 5 => 30 | 6 => 30 | 7 => 101 | 9 => 300 | 11 => 40 | 12 => 40 | 13 => 40 | 15 => 16 | _ => 0
def xrf (k j : Nat) : Option Nat := match k, j with
  | 0, 0 => some 1 | 0, 1 => some 2 | 0, 2 => some 3 | 0, 3 => some 4 | 0, 4 => some 10 | 0, 5 => some 8 | 0, 6 => some 14
  | 4, 0 => some 5 | 4, 1 => some 6 | 4, 2 => some 7 | 8, 0 => some 9 | 10, 0 => some 8 | 10, 1 => some 11 | 10, 2 => some 12 | 10, 3 => some 13 | 14, 0 => some 15
  | _, _ => none
def okX (dm : List Nat) (kd ln : Nat → Nat) (R : Mr) (nP nD : Nat) : Prop :=
  (∀ k, k < 16 → k ∈ dm ∧ kd k = xkd k ∧ ln k = xln k ∧ ∀ j t, xrf k j = some t → R k j = some t) ∧
  (nP ≤ 30 ∧ nD ≤ 40) ∧
  (∀ i, i < nP → 100 + i ∈ dm ∧ kd (100 + i) = 4 ∧ R 16 i = some (100 + i) ∧ (R (100 + i) 1 = none ∨ ∃ j, j < i ∧ R (100 + i) 1 = some (100 + j))) ∧
  (∀ j, j < nD → 200 + j ∈ dm ∧ kd (200 + j) = 1 ∧ R 17 j = some (200 + j) ∧ ∃ i, i < nP ∧ R (200 + j) 0 = some (100 + i)) ∧
  (0 < nP → 16 ∈ dm ∧ kd 16 = 13 ∧ nP ≤ ln 16 ∧ ln 16 ≤ 100 ∧ R 1 1 = some 16) ∧
  (0 < nD → 17 ∈ dm ∧ kd 17 = 13 ∧ nD ≤ ln 17 ∧ ln 17 ≤ 100 ∧ R 2 1 = some 17)
/-! what the reference's world is: 1000 the object, 1000 + j its row of slot j -/
def mkd (j : Nat) : Nat := match j with
  | 15 => 12 | 16 => 12 | 29 => 12 | _ => 10
def mln (j : Nat) : Nat := match j with
  | 2 => 30 | 3 => 30 | 4 => 30 | 5 => 30 | 6 => 30 | 27 => 30 | 28 => 30 | 30 => 900 | 31 => 300 | 46 => 16 | _ => 40
def mrw : List Nat := [2, 3, 4, 5, 6, 8, 9, 10, 11, 12, 13, 14, 15, 16, 17, 18, 19, 20, 27, 28, 29, 30, 31, 42, 43, 44, 45, 46]
def okM (dm : List Nat) (kd ln : Nat → Nat) (R : Mr) : Prop :=
  (1000 ∈ dm ∧ kd 1000 = 9) ∧ ∀ j, j ∈ mrw → 1000 + j ∈ dm ∧ kd (1000 + j) = mkd j ∧ ln (1000 + j) = mln j ∧ R 1000 j = some (1000 + j)
