-- what the class's methods rest on
def WX (S : PS) : Prop := skc S ≤ 20 ∧ Nm S ∧ Tr S ∧ (∀ i, i < ssz S → 1 ≤ sso S i ∧ sso S i ≤ skc S) ∧ (∀ k, 1 ≤ k → k ≤ skc S → 1 ≤ slv S k ∧ slv S k ≤ 8) ∧ (∀ k, 1 ≤ k → k ≤ skc S → sab S k < k) ∧ ssz S ≤ 255 ∧ (∀ v, 1 ≤ v → v ≤ svc S → Lv S (spo S v) ∧ Lv S (spr S v)) ∧ svc S ≤ 9
def ax (S : PS) (i : Int32) : Option Nat := if i < 0 ∨ nI (ssz S) ≤ i then none else some i.toNatClampNeg
theorem ax_n {S : PS} {j : Nat} (hj : j < ssz S) (hz : ssz S ≤ 255) : ax S (nI j) = some j := by
  unfold ax
  rw [if_neg, nI_clamp (by omega)]
  rintro (q | q)
  · exact nI_pos (by omega) q
  · exact nI_ge hj (by omega) q
theorem ax_o {S : PS} {q : Option Nat} (hq : ∀ i, q = some i → i < ssz S) (hz : ssz S ≤ 255) : ax S (oI q) = q := by
  cases q with
  | none => unfold ax; rw [if_pos (Or.inl (by decide))]
  | some i => exact ax_n (hq i rfl) hz
def knr (B : XB) (n : Nat) (k : Int32) : Option Nat := (ki n k).map (xk B)
def vnr (B : XB) (n : Nat) (k : Int32) : Option Nat := (ki n k).map (xv B)
