-- the calls, on the pure state: answer and new state
def PM (h : AH) (m : Nat) (A : Nat → Nat) (res : Int32 × PS) : Option Value → AH → Prop := fun r h' => r = some (.int res.1) ∧ IF h h' m A res.2
def addk (S : PS) (j l : Nat) (u : Bool) : PS := uru (uun (ulv (uab (ukc S (skc S + 1)) (skc S + 1) j) (skc S + 1) l) (skc S + 1) u) (skc S + 1) 1
def kindS (S : PS) (o : Int32) (u : Bool) : Int32 × PS :=
  if o = 0 ∧ skc S = 0 then (1, addk S 0 1 u) else match ki (skc S) o with
    | none => (-1, S)
    | some j => if slv S j = 8 ∨ skc S = 20 then (-1, S) else (nI (skc S + 1), addk S j (slv S j + 1) u)
def viewS (S : PS) : Int32 × PS := if svc S = 9 then (-1, S) else (nI (svc S + 1), uvc S (svc S + 1))
/-- a number of the script that is one of 0 .. n -/
def kz (n : Nat) (k : Int32) : Option Nat := if k < 0 ∨ nI n < k then none else some k.toNatClampNeg
theorem kz_some {n : Nat} {k : Int32} {j : Nat} (hn : n < 2 ^ 31) (h : kz n k = some j) : k = nI j ∧ j ≤ n := by
  unfold kz at h
  split at h
  · cases h
  · rename_i c
    obtain ⟨i, h1, h2⟩ := nI_of (x := k) (fun q => c (Or.inl q))
    subst h2
    rw [nI_clamp h1] at h
    cases h
    refine ⟨rfl, ?_⟩
    rcases Nat.lt_or_ge n j with q | q
    · exact absurd (Or.inr (nI_lt q h1)) c
    · exact q
theorem kz_none {n : Nat} {k : Int32} : kz n k = none ↔ (k < 0 ∨ nI n < k) := by
  unfold kz
  split
  · rename_i c; exact ⟨fun _ => c, fun _ => rfl⟩
  · rename_i c; exact ⟨fun q => (by cases q), fun q => absurd q c⟩
def partS (S : PS) (k op : Int32) (key : Int64) : Int32 × PS := match ki (skc S) k, kz 6 op with
  | some j, some o => if spc S = 8 then (-1, S) else (nI (spc S + 1), upc (ucd (upy (uop (upk S (spc S) j) (spc S) o) (spc S) key) (spc S) 0) (spc S + 1))
  | _, _ => (-1, S)
def codeS (S : PS) (p c : Int32) : Int32 × PS := match ki (spc S) p, kz 15 c with
  | some j, some d => (nI (scd S (j - 1)), ucd S (j - 1) d)
  | _, _ => (-1, S)
def ruleS (S : PS) (k r : Int32) : Int32 × PS := match ki (skc S) k, kz 2 r with
  | some j, some d => (nI (sru S j), uru S j d)
  | _, _ => (-1, S)
def segS (S : PS) (l : Int32) : Int64 := match ki 8 l with
  | some j => ssh S j
  | none => 0
def countS (S : PS) : Int32 := nI (ssz S)
def withinS (S : PS) (v : Int32) : Int32 := match ki (svc S) v with
  | none => -1
  | some j => match plc S (spr S j) with
    | none => -1
    | some k => nI (bhd S k - k - 1)
def ordO (S : PS) (j o : Nat) : Int32 := match o with
  | 0 => nI (sso S j)
  | 1 => nI (slo S j)
  | 2 => (sky S j).toInt32
  | 3 => (svl S j).toInt32
  | _ => -1
def orderS (S : PS) (i w : Int32) : Int32 := if i < 0 ∨ nI (ssz S) ≤ i then -1 else match kz 3 w with
  | some o => ordO S i.toNatClampNeg o
  | none => -1
def oz (f : Nat → Nat) : Option Nat → Int32
  | none => 0
  | some k => nI (f k)
def posO (S : PS) (j o : Nat) : Int32 := match o with
  | 0 => oz (sso S) (plc S (spo S j))
  | 1 => oz (slo S) (plc S (spo S j))
  | 2 => oz (sso S) (plc S (spr S j))
  | 3 => ob (shd S j)
  | _ => -1
def posS (S : PS) (v w : Int32) : Int32 := match ki (svc S) v with
  | none => -1
  | some j => match kz 3 w with
    | some o => posO S j o
    | none => -1
def replS (S : PS) (v : Int32) (w : Int64) : Int32 × PS := match ki (svc S) v with
  | none => (-1, S)
  | some j => if shd S j = true then (match plc S (spo S j) with | none => (0, S) | some k => (0, uhd (uvl S k w) j false)) else (8, S)
