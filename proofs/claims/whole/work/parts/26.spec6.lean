-- insert, on the pure state
def mkR (S : PS) (sz nd : Nat) (nm so : Nat → Nat) (ky vl : Nat → Int64) : PS := (S.1, (sz, nd, nm, so, ky, vl), S.2.2.1, S.2.2.2.1, S.2.2.2.2)
def sk1 (S : PS) (kd e : Nat) : Nat → Nat → Nat
  | 0, k => k
  | n + 1, k => if k < e ∧ sso S k < kd then sk1 S kd e n (bhd S k) else k
def scT (S : PS) (kd : Nat) (key : Int64) (e : Nat) : Nat → Nat → Bool
  | 0, _ => false
  | n + 1, k => if k < e ∧ sso S k = kd then (decide (sky S k = key) || scT S kd key e n (bhd S k)) else false
def scE (S : PS) (kd : Nat) (key : Int64) (e : Nat) (pos : Option Nat) : Nat → Nat → Option Nat → Option Nat
  | 0, _, q => q
  | n + 1, k, q => if k < e ∧ sso S k = kd then scE S kd key e pos n (bhd S k) (if sky S k = key ∧ pos = some k then some k else q) else q
def ltq (k : Nat) : Option Nat → Bool
  | none => false
  | some j => decide (k < j)
def mor (S : PS) (kd : Nat) (key : Int64) (q : Option Nat) (k : Nat) : Bool := decide (sky S k < key) || (decide (sky S k = key) && (decide (sru S kd = 1) || (decide (sru S kd = 2) && ltq k q)))
def mv1 (S : PS) (kd : Nat) (key : Int64) (e : Nat) (q : Option Nat) : Nat → Nat → Nat
  | 0, k => k
  | n + 1, k => if (k < e ∧ sso S k = kd) ∧ mor S kd key q k = true then mv1 S kd key e q n (bhd S k) else k
def shf {α : Type} (f : Nat → α) (a sz : Nat) (y : α) : Nat → α := fun j => if j = a then y else if a < j ∧ j ≤ sz then f (j - 1) else f j
def insdS (S : PS) (v a kd : Nat) (key val : Int64) : PS := upo (mkR S (ssz S + 1) (snd S + 1) (shf (snm S) a (ssz S) (snd S + 1)) (shf (sso S) a (ssz S) kd) (shf (sky S) a (ssz S) key) (shf (svl S) a (ssz S) val)) v (snd S + 1)
def parS (S : PS) (n kd : Nat) (pos : Option Nat) : Option Nat := if sab S kd = 0 then none else if 1 < n then frst S 0 (ssz S) (n - 1) pos else okd S pos (sab S kd)
def endS (S : PS) (par : Option Nat) : Nat := match par with
  | none => ssz S
  | some k => bhd S k
def at0 (S : PS) (kd : Nat) (par : Option Nat) : Nat := sk1 S kd (endS S par) (ssz S) (nx par)
def at1 (S : PS) (kd : Nat) (key : Int64) (pos par : Option Nat) : Nat := mv1 S kd key (endS S par) (scE S kd key (endS S par) pos (ssz S) (at0 S kd par) none) (ssz S) (at0 S kd par)
def insnS (S : PS) (v n : Nat) (key val : Int64) : Int32 × PS :=
  if sab S (spk S (n - 1)) ≠ 0 ∧ parS S n (spk S (n - 1)) (plc S (spo S v)) = none then (1, S) else
  if scT S (spk S (n - 1)) key (endS S (parS S n (spk S (n - 1)) (plc S (spo S v)))) (ssz S) (at0 S (spk S (n - 1)) (parS S n (spk S (n - 1)) (plc S (spo S v)))) = true ∧ sun S (spk S (n - 1)) = true then (7, S) else
  (0, insdS S v (at1 S (spk S (n - 1)) key (plc S (spo S v)) (parS S n (spk S (n - 1)) (plc S (spo S v)))) (spk S (n - 1)) key val)
def badI (S : PS) : Bool := (spc S == 0 || !(af S (spc S))) || (decide (1 < spc S) && !(sab S (spk S (spc S - 1)) == spk S (spc S - 2)))
def insS (S : PS) (view : Int32) (key val : Int64) : Int32 × PS := match ki (svc S) view with
  | none => (-1, S)
  | some v => if badI S = true then (6, uhd (upc S 0) v false) else insnS (uhd (upc S 0) v false) v (spc S) key val
theorem sk1_fuel {S : PS} {kd e : Nat} : ∀ (n m k : Nat), e ≤ k + n → e ≤ k + m → sk1 S kd e n k = sk1 S kd e m k
  | 0, 0, k, _, _ => rfl
  | 0, m + 1, k, h, _ => by rw [sk1, sk1, if_neg (by omega)]
  | n + 1, 0, k, _, h => by rw [sk1, sk1, if_neg (by omega)]
  | n + 1, m + 1, k, h1, h2 => by
    have := bhd_lt S k
    rw [sk1, sk1]
    split
    · exact sk1_fuel n m _ (by omega) (by omega)
    · rfl
theorem scT_fuel {S : PS} {kd e : Nat} {key : Int64} : ∀ (n m k : Nat), e ≤ k + n → e ≤ k + m → scT S kd key e n k = scT S kd key e m k
  | 0, 0, k, _, _ => rfl
  | 0, m + 1, k, h, _ => by rw [scT, scT, if_neg (by omega)]
  | n + 1, 0, k, _, h => by rw [scT, scT, if_neg (by omega)]
  | n + 1, m + 1, k, h1, h2 => by
    have := bhd_lt S k
    rw [scT, scT]
    split
    · rw [scT_fuel n m _ (by omega) (by omega)]
    · rfl
theorem scE_fuel {S : PS} {kd e : Nat} {key : Int64} {pos : Option Nat} : ∀ (n m k : Nat) (q : Option Nat), e ≤ k + n → e ≤ k + m → scE S kd key e pos n k q = scE S kd key e pos m k q
  | 0, 0, k, q, _, _ => rfl
  | 0, m + 1, k, q, h, _ => by rw [scE, scE, if_neg (by omega)]
  | n + 1, 0, k, q, _, h => by rw [scE, scE, if_neg (by omega)]
  | n + 1, m + 1, k, q, h1, h2 => by
    have := bhd_lt S k
    rw [scE, scE]
    split
    · rw [scE_fuel n m _ _ (by omega) (by omega)]
    · rfl
theorem mv1_fuel {S : PS} {kd e : Nat} {key : Int64} {q : Option Nat} : ∀ (n m k : Nat), e ≤ k + n → e ≤ k + m → mv1 S kd key e q n k = mv1 S kd key e q m k
  | 0, 0, k, _, _ => rfl
  | 0, m + 1, k, h, _ => by rw [mv1, mv1, if_neg (by omega)]
  | n + 1, 0, k, _, h => by rw [mv1, mv1, if_neg (by omega)]
  | n + 1, m + 1, k, h1, h2 => by
    have := bhd_lt S k
    rw [mv1, mv1]
    split
    · exact mv1_fuel n m _ (by omega) (by omega)
    · rfl
theorem sk1_ub {S : PS} {kd e : Nat} (he : e ≤ ssz S) : ∀ (n k : Nat), k ≤ ssz S → sk1 S kd e n k ≤ ssz S
  | 0, k, h => h
  | n + 1, k, h => by
    rw [sk1]
    split
    · rename_i c
      exact sk1_ub he n _ (bhd_ub S (by omega))
    · exact h
theorem mv1_ub {S : PS} {kd e : Nat} {key : Int64} {q : Option Nat} (he : e ≤ ssz S) : ∀ (n k : Nat), k ≤ ssz S → mv1 S kd key e q n k ≤ ssz S
  | 0, k, h => h
  | n + 1, k, h => by
    rw [mv1]
    split
    · rename_i c
      exact mv1_ub he n _ (bhd_ub S (by omega))
    · exact h
theorem scE_lt {S : PS} {kd e : Nat} {key : Int64} {pos : Option Nat} : ∀ (n k : Nat) (q : Option Nat) (j : Nat), (∀ i, q = some i → i < e) → scE S kd key e pos n k q = some j → j < e
  | 0, k, q, j, hq, h => hq j h
  | n + 1, k, q, j, hq, h => by
    rw [scE] at h
    split at h
    · rename_i c
      refine scE_lt n _ _ j (fun i hi => ?_) h
      split at hi
      · cases hi; exact c.1
      · exact hq i hi
    · exact hq j h
