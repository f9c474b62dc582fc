-- get, on the pure state
def mkT (S : PS) (po pr : Nat → Nat) (sh : Nat → Int64) : PS := (S.1, S.2.1, (S.2.2.1.1, po, pr, S.2.2.1.2.2.2), S.2.2.2.1, sh)
def nx : Option Nat → Nat
  | none => 0
  | some i => i + 1
theorem oI_nx (o : Option Nat) : oI o + 1 = nI (nx o) := by
  cases o with
  | none => rfl
  | some i => exact nI_1 i
def wth (S : PS) (pos par : Option Nat) : Bool := match pos, par with
  | some i, some k => decide (ovr S (some i) (slo S k) = some k)
  | _, _ => false
def fromS (S : PS) (c : Nat) (pos par : Option Nat) : Nat := if c = 0 then 0 else if c = 1 then nx pos else if wth S pos par = true then nx pos else nx par
def toS (S : PS) (c : Nat) (par : Option Nat) : Nat := if c = 2 then (match par with | some k => bhd S k | none => 0) else ssz S
def statS (S : PS) (c n : Nat) (pos : Option Nat) (f : Nat) : Int32 := if c = 1 ∧ n = 0 then (match pos with | none => 0 | some p => if sso S f = sso S p then 0 else if slo S f < slo S p then 3 else if slo S f = slo S p then 4 else 0) else 0
def flp (S : PS) (v f : Nat) : Nat → (Nat → Nat) → (Nat → Nat)
  | 0, pr => pr
  | p + 1, pr => if cb (scd S p) 4 = true then (match okd S (some f) (spk S p) with | some k => (fun i => if i = v then snm S k else flp S v f p pr i) | none => flp S v f p pr) else flp S v f p pr
def fls (S : PS) (f : Nat) : Nat → (Nat → Int64) → (Nat → Int64)
  | 0, sh => sh
  | p + 1, sh => if cb (scd S p) 8 = true then (match okd S (some f) (spk S p) with | some k => (fun i => if i = slv S (spk S p) then svl S k else fls S f p sh i) | none => fls S f p sh) else fls S f p sh
def foundS (S : PS) (v c n f : Nat) : PS := mkT S (fun i => if i = v then snm S f else spo S i) (flp S v f n (fun i => if i = v then (if c < 2 then snm S f else spr S v) else spr S i)) (fls S f n (fun l => if l = slo S f then svl S f else if l < 9 then 0 else ssh S l))
def resS (S : PS) (v c n : Nat) (pos : Option Nat) : Option Nat → Int32 × PS
  | none => if c = 1 then (2, upo S v 0) else (1, S)
  | some f => (statS S c n pos f, foundS S v c n f)
def findsS (S : PS) (v c n : Nat) : Int32 × PS :=
  if c = 2 ∧ plc S (spr S v) = none then (5, S) else resS S v c n (plc S (spo S v)) (frst S (fromS S c (plc S (spo S v)) (plc S (spr S v))) (toS S c (plc S (spr S v))) n (plc S (spo S v)))
def getS (S : PS) (view call : Int32) : Int32 × PS := match ki (svc S) view with
  | none => (-1, S)
  | some v => match kz 6 call with
    | none => (6, uhd (upc S 0) v false)
    | some a => if a = 3 ∨ af S (spc S) = false then (6, uhd (upc S 0) v false) else
      ((findsS (uhd (upc S 0) v false) v (a % 4) (spc S)).1, uhd (findsS (uhd (upc S 0) v false) v (a % 4) (spc S)).2 v (decide (3 < a ∧ ((findsS (uhd (upc S 0) v false) v (a % 4) (spc S)).1 = 0 ∨ (findsS (uhd (upc S 0) v false) v (a % 4) (spc S)).1 = 3 ∨ (findsS (uhd (upc S 0) v false) v (a % 4) (spc S)).1 = 4))))
theorem fa_all {S : PS} {i : Nat} {pos : Option Nat} : ∀ {n : Nat}, fa S i pos n = true → ∀ p, p < n → fp1 S i pos p = true
  | 0, _, p, hp => by omega
  | n + 1, h, p, hp => by
    rw [fa, Bool.and_eq_true] at h
    rcases Nat.lt_or_ge p n with q | q
    · exact fa_all h.1 p q
    · have e : p = n := by omega
      rw [e]; exact h.2
theorem fit_ok {S : PS} {i n : Nat} {pos : Option Nat} (h : fit S i n pos = true) (p : Nat) (hp : p < n) : ∃ k, okd S (some i) (spk S p) = some k := by
  unfold fit at h
  rw [Bool.and_eq_true] at h
  have h1 := fa_all h.2 p hp
  unfold fp1 at h1
  cases e : okd S (some i) (spk S p) with
  | none => rw [e] at h1; cases h1
  | some k => exact ⟨k, rfl⟩
theorem frst_some {S : PS} {a b n f : Nat} {pos : Option Nat} (h : frst S a b n pos = some f) : a ≤ f ∧ f < b ∧ fit S f n pos = true := by
  obtain ⟨h1, h2, h3⟩ := fs1_lt h
  exact ⟨h1, by omega, h3⟩
