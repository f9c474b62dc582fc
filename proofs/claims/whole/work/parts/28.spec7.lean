-- delete, on the pure state
def mkV (S : PS) (po pr : Nat → Nat) (hd : Nat → Bool) : PS := (S.1, S.2.1, (S.2.2.1.1, po, pr, hd), S.2.2.2.1, S.2.2.2.2)
def inR (S : PS) (f : Nat) : Option Nat → Bool
  | none => false
  | some i => decide (f ≤ i ∧ i < bhd S f)
def dpo (S : PS) (f ah w : Nat) : Nat → Nat := fun i => if (1 ≤ i ∧ i < w) ∧ inR S f (plc S (spo S i)) = true then ah else spo S i
def dpr (S : PS) (f w : Nat) : Nat → Nat := fun i => if (1 ≤ i ∧ i < w) ∧ inR S f (plc S (spr S i)) = true then 0 else spr S i
def dhd (S : PS) (f w : Nat) : Nat → Bool := fun i => if (1 ≤ i ∧ i < w) ∧ inR S f (plc S (spo S i)) = true then false else shd S i
def dsh {α : Type} (g : Nat → α) (f gone sz : Nat) : Nat → α := fun j => if f ≤ j ∧ j + gone < sz then g (j + gone) else g j
def aheadS (S : PS) (f : Nat) : Nat := if f = 0 then 0 else snm S (f - 1)
def deldS (S : PS) (f : Nat) : PS := (S.1, (ssz S - (bhd S f - f), snd S, dsh (snm S) f (bhd S f - f) (ssz S), dsh (sso S) f (bhd S f - f) (ssz S), dsh (sky S) f (bhd S f - f) (ssz S), dsh (svl S) f (bhd S f - f) (ssz S)), (svc S, dpo S f (aheadS S f) (svc S + 1), dpr S f (svc S + 1), dhd S f (svc S + 1)), S.2.2.2.1, S.2.2.2.2)
def delS (S : PS) (view : Int32) : Int32 × PS := match ki (svc S) view with
  | none => (-1, S)
  | some v => if shd S v = true then (match plc S (spo S v) with | none => (0, S) | some f => (0, deldS S f)) else (8, S)
