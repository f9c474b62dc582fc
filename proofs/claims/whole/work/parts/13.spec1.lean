-- the pure state, and what the reference computes on it
abbrev KS : Type := Nat × (Nat → Nat) × (Nat → Nat) × (Nat → Nat) × (Nat → Bool)
abbrev RS : Type := Nat × Nat × (Nat → Nat) × (Nat → Nat) × (Nat → Int64) × (Nat → Int64)
abbrev VS : Type := Nat × (Nat → Nat) × (Nat → Nat) × (Nat → Bool)
abbrev TS : Type := Nat × (Nat → Nat) × (Nat → Nat) × (Nat → Nat) × (Nat → Int64)
abbrev PS : Type := KS × RS × VS × TS × (Nat → Int64)
abbrev skc (S : PS) : Nat := S.1.1
abbrev sab (S : PS) : Nat → Nat := S.1.2.1
abbrev slv (S : PS) : Nat → Nat := S.1.2.2.1
abbrev sru (S : PS) : Nat → Nat := S.1.2.2.2.1
abbrev sun (S : PS) : Nat → Bool := S.1.2.2.2.2
abbrev ssz (S : PS) : Nat := S.2.1.1
abbrev snd (S : PS) : Nat := S.2.1.2.1
abbrev snm (S : PS) : Nat → Nat := S.2.1.2.2.1
abbrev sso (S : PS) : Nat → Nat := S.2.1.2.2.2.1
abbrev sky (S : PS) : Nat → Int64 := S.2.1.2.2.2.2.1
abbrev svl (S : PS) : Nat → Int64 := S.2.1.2.2.2.2.2
abbrev svc (S : PS) : Nat := S.2.2.1.1
abbrev spo (S : PS) : Nat → Nat := S.2.2.1.2.1
abbrev spr (S : PS) : Nat → Nat := S.2.2.1.2.2.1
abbrev shd (S : PS) : Nat → Bool := S.2.2.1.2.2.2
abbrev spc (S : PS) : Nat := S.2.2.2.1.1
abbrev spk (S : PS) : Nat → Nat := S.2.2.2.1.2.1
abbrev sop (S : PS) : Nat → Nat := S.2.2.2.1.2.2.1
abbrev scd (S : PS) : Nat → Nat := S.2.2.2.1.2.2.2.1
abbrev spy (S : PS) : Nat → Int64 := S.2.2.2.1.2.2.2.2
abbrev ssh (S : PS) : Nat → Int64 := S.2.2.2.2
/-- a row's level -/
def slo (S : PS) (i : Nat) : Nat := slv S (sso S i)
/-- the last place below n that bears a name -/
def pl (f : Nat → Nat) (nm : Nat) : Nat → Option Nat
  | 0 => none
  | n + 1 => if f n = nm then some n else pl f nm n
def plc (S : PS) (nm : Nat) : Option Nat := if nm = 0 then none else pl (snm S) nm (ssz S)
/-- from k on, the first row that isn't below level l -/
def bh (f : Nat → Nat) (sz l : Nat) : Nat → Nat → Nat
  | 0, k => k
  | n + 1, k => if k < sz ∧ l < f k then bh f sz l n (k + 1) else k
def bhd (S : PS) (i : Nat) : Nat := bh (slo S) (ssz S) (slo S i) (ssz S) (i + 1)
/-- from k downwards, the first row at level l or less -/
def ov (f : Nat → Nat) (l : Nat) : Nat → Nat
  | 0 => 0
  | k + 1 => if l < f (k + 1) then ov f l k else k + 1
def ovr (S : PS) (i : Option Nat) (l : Nat) : Option Nat := match i with
  | none => none
  | some j => if slo S j < l then none else some (ov (slo S) l j)
def okd (S : PS) (i : Option Nat) (kd : Nat) : Option Nat := match ovr S i (slv S kd) with
  | none => none
  | some k => if sso S k = kd then some k else none
def rel (op : Nat) (a b : Int64) : Bool := match op with
  | 1 => decide (a = b)
  | 2 => decide (b < a)
  | 3 => decide (a < b)
  | 4 => decide (b ≤ a)
  | 5 => decide (a ≤ b)
  | 6 => decide (¬ a = b)
  | _ => true
theorem bh_le {f : Nat → Nat} {sz l : Nat} : ∀ (n k : Nat), k ≤ bh f sz l n k
  | 0, k => Nat.le_refl k
  | n + 1, k => by
    rw [bh]
    split
    · exact Nat.le_trans (Nat.le_succ k) (bh_le n (k + 1))
    · exact Nat.le_refl k
theorem bh_ub {f : Nat → Nat} {sz l : Nat} : ∀ (n k : Nat), k ≤ sz → bh f sz l n k ≤ sz
  | 0, k, h => h
  | n + 1, k, h => by
    rw [bh]
    split
    · rename_i c
      exact bh_ub n (k + 1) c.1
    · exact h
theorem bh_fuel {f : Nat → Nat} {sz l : Nat} : ∀ (n m k : Nat), sz ≤ k + n → sz ≤ k + m → bh f sz l n k = bh f sz l m k
  | 0, 0, k, _, _ => rfl
  | 0, m + 1, k, h, _ => by
    rw [bh, bh, if_neg (by omega)]
  | n + 1, 0, k, _, h => by
    rw [bh, bh, if_neg (by omega)]
  | n + 1, m + 1, k, h1, h2 => by
    rw [bh, bh]
    split
    · exact bh_fuel n m (k + 1) (by omega) (by omega)
    · rfl
theorem bhd_lt (S : PS) (i : Nat) : i < bhd S i := bh_le _ _
theorem bhd_ub (S : PS) {i : Nat} (h : i < ssz S) : bhd S i ≤ ssz S := bh_ub _ _ h
theorem ov_le {f : Nat → Nat} {l : Nat} : ∀ (k : Nat), ov f l k ≤ k
  | 0 => Nat.le_refl 0
  | k + 1 => by
    rw [ov]
    split
    · exact Nat.le_trans (ov_le k) (Nat.le_succ k)
    · exact Nat.le_refl _
theorem pl_lt {f : Nat → Nat} {nm : Nat} : ∀ {n i : Nat}, pl f nm n = some i → i < n ∧ f i = nm
  | 0, i, h => by cases h
  | n + 1, i, h => by
    rw [pl] at h
    split at h
    · rename_i e
      cases h
      exact ⟨Nat.lt_succ_self _, e⟩
    · obtain ⟨a, b⟩ := pl_lt h
      exact ⟨Nat.lt_succ_of_lt a, b⟩
theorem plc_lt {S : PS} {nm i : Nat} (h : plc S nm = some i) : i < ssz S ∧ snm S i = nm ∧ nm ≠ 0 := by
  unfold plc at h
  split at h
  · cases h
  · rename_i e
    obtain ⟨a, b⟩ := pl_lt h
    exact ⟨a, b, e⟩
theorem nI_m1 {i : Nat} (h : i < 2 ^ 31) : ¬ nI i = -1 := by
  intro e
  have h1 := nI_toInt h
  rw [e] at h1
  have h2 : (-1 : Int32).toInt = -1 := by decide
  rw [h2] at h1
  omega
theorem nI_1' : nI 1 = 1 := rfl
theorem oI_m1 {o : Option Nat} (h : ∀ i, o = some i → i < 2 ^ 31) : oI o = -1 ↔ o = none := by
  cases o with
  | none => exact ⟨fun _ => rfl, fun _ => rfl⟩
  | some i => exact ⟨fun e => absurd e (nI_m1 (h i rfl)), fun e => by cases e⟩
-- the reference's object: addresses A, state S
def mfs (A : Nat → Nat) (S : PS) : List Value := [.ref (A 0), .ref (A 1), .ref (A 2), .ref (A 3), .int (nI (skc S)), .ref (A 5), .ref (A 6), .ref (A 7), .ref (A 8), .int (nI (ssz S)), .int (nI (snd S)), .ref (A 11), .ref (A 12), .ref (A 13), .int (nI (svc S)), .ref (A 15), .ref (A 16), .ref (A 17), .ref (A 18), .int (nI (spc S)), .ref (A 20)]
def IM (h : AH) (m : Nat) (A : Nat → Nat) (S : PS) : Prop :=
  h.2 m = some (6, mfs A S) ∧ h.2 (A 0) = some (50 + 5, arv 21 (fun i => .int (nI (sab S i)))) ∧ h.2 (A 1) = some (50 + 5, arv 21 (fun i => .int (nI (slv S i)))) ∧ h.2 (A 2) = some (50 + 5, arv 21 (fun i => .int (nI (sru S i)))) ∧ h.2 (A 3) = some (50 + 6, arv 21 (fun i => .int (ob (sun S i)))) ∧
  h.2 (A 5) = some (50 + 5, arv 1100 (fun i => .int (nI (snm S i)))) ∧ h.2 (A 6) = some (50 + 5, arv 1100 (fun i => .int (nI (sso S i)))) ∧ h.2 (A 7) = some (50 + 4, arv 1100 (fun i => .long (sky S i))) ∧ h.2 (A 8) = some (50 + 4, arv 1100 (fun i => .long (svl S i))) ∧
  h.2 (A 11) = some (50 + 5, arv 10 (fun i => .int (nI (spo S i)))) ∧ h.2 (A 12) = some (50 + 5, arv 10 (fun i => .int (nI (spr S i)))) ∧ h.2 (A 13) = some (50 + 6, arv 10 (fun i => .int (ob (shd S i)))) ∧
  h.2 (A 15) = some (50 + 5, arv 8 (fun i => .int (nI (spk S i)))) ∧ h.2 (A 16) = some (50 + 5, arv 8 (fun i => .int (nI (sop S i)))) ∧ h.2 (A 17) = some (50 + 5, arv 8 (fun i => .int (nI (scd S i)))) ∧ h.2 (A 18) = some (50 + 4, arv 8 (fun i => .long (spy S i))) ∧ h.2 (A 20) = some (50 + 4, arv 9 (fun i => .long (ssh S i))) ∧
  (∀ i j, A i = A j → i = j) ∧ ∀ i, A i ≠ m
/-- numbers in range: what keeps the reference's indices good -/
def Wn (S : PS) : Prop := skc S ≤ 20 ∧ (∀ k, k ≤ skc S → slv S k ≤ 8 ∧ sab S k ≤ skc S ∧ sru S k ≤ 2) ∧ ssz S ≤ 1000 ∧ snd S ≤ 1000 ∧ (∀ i, i < ssz S → 1 ≤ sso S i ∧ sso S i ≤ skc S ∧ 1 ≤ snm S i ∧ snm S i ≤ snd S) ∧ svc S ≤ 9 ∧ spc S ≤ 8 ∧ (∀ p, p < spc S → 1 ≤ spk S p ∧ spk S p ≤ skc S ∧ sop S p ≤ 6 ∧ scd S p ≤ 15)
