-- the class's objects: addresses B, over the same pure state
abbrev XB : Type := (Nat → Nat) × (Nat → Nat) × (Nat → Nat) × (Nat → Nat) × (Nat → Nat)
abbrev xC (B : XB) : Nat → Nat := B.1
abbrev xk (B : XB) : Nat → Nat := B.2.1
abbrev xv (B : XB) : Nat → Nat := B.2.2.1
abbrev xp (B : XB) : Nat → Nat := B.2.2.2.1
abbrev xs (B : XB) : Nat → Nat := B.2.2.2.2
def kr (B : XB) (k : Nat) : Option Nat := if k = 0 then none else some (xk B k)
def sr (B : XB) (nm : Nat) : Option Nat := if nm = 0 then none else some (xs B nm)
def pnm (S : PS) (i : Nat) : Nat := if 2 ≤ slo S i then snm S (par S i) else 0
def rr (B : XB) (S : PS) (o : Option Nat) : Option Nat := o.map (fun i => xs B (snm S i))
def xfs (B : XB) (S : PS) : List Value := [.ref (xC B 0), .int (nI (skc S)), .ref (xC B 1), .int (nI (svc S)), .ref (xC B 2), .int (nI (spc S)), .ref (xC B 3), .ref (xC B 5)]
def kce (B : XB) (S : PS) (k : Nat) : List Value := [.int (nI k), .int (nI (slv S k)), va_rf (kr B (sab S k)), .int (ob (sun S k)), .int (nI (sru S k))]
def vce (B : XB) (S : PS) (v : Nat) : List Value := [va_rf (sr B (spo S v)), va_rf (sr B (spr S v)), .int (ob (shd S v))]
def pce (B : XB) (S : PS) (p : Nat) : List Value := [va_rf (kr B (spk S p)), .int (nI (sop S p)), .long (spy S p), .int (nI (scd S p))]
def sce (B : XB) (S : PS) (i : Nat) : List Value := [.ref (xk B (sso S i)), va_rf (sr B (pnm S i)), .long (sky S i), .long (svl S i)]
def IX (h : AH) (o : Nat) (B : XB) (S : PS) : Prop :=
  h.2 o = some (0, xfs B S) ∧ h.2 (xC B 0) = some (50 + 0, arv 20 (fun i => if i < skc S then .ref (xk B (i + 1)) else .null)) ∧ h.2 (xC B 1) = some (50 + 1, arv 9 (fun i => if i < svc S then .ref (xv B (i + 1)) else .null)) ∧ h.2 (xC B 2) = some (50 + 2, arv 8 (fun i => .ref (xp B i))) ∧
  h.2 (xC B 3) = some (5, [.ref (xC B 4), .int (nI (ssz S))]) ∧ h.2 (xC B 4) = some (50 + 3, arv 256 (fun i => if i < ssz S then .ref (xs B (snm S i)) else .null)) ∧ h.2 (xC B 5) = some (50 + 4, arv 8 (fun i => .long (ssh S (i + 1)))) ∧
  (∀ k, 1 ≤ k → k ≤ skc S → h.2 (xk B k) = some (1, kce B S k)) ∧ (∀ v, 1 ≤ v → v ≤ svc S → h.2 (xv B v) = some (3, vce B S v)) ∧ (∀ p, p < 8 → h.2 (xp B p) = some (4, pce B S p)) ∧ (∀ i, i < ssz S → h.2 (xs B (snm S i)) = some (2, sce B S i)) ∧
  (∀ v w, v ≤ svc S → w ≤ svc S → 1 ≤ v → 1 ≤ w → xv B v = xv B w → v = w) ∧ (∀ p q, p < 8 → q < 8 → xp B p = xp B q → p = q) ∧ (∀ i j, i < ssz S → j < ssz S → xs B (snm S i) = xs B (snm S j) → i = j)
theorem kr_none {B : XB} {k : Nat} (h : kr B k = none) : k = 0 := by
  unfold kr at h
  split at h
  · assumption
  · cases h
theorem kr_some {B : XB} {k a : Nat} (h : kr B k = some a) : k ≠ 0 ∧ a = xk B k := by
  unfold kr at h
  split at h
  · cases h
  · rename_i c; cases h; exact ⟨c, rfl⟩
theorem kr_pos {B : XB} {k : Nat} (h : 1 ≤ k) : kr B k = some (xk B k) := by unfold kr; rw [if_neg (by omega)]
theorem IX_kinj {h : AH} {o : Nat} {B : XB} {S : PS} (hX : IX h o B S) (hk : skc S ≤ 20) {a b : Nat} (ha : 1 ≤ a) (ha2 : a ≤ skc S) (hb : 1 ≤ b) (hb2 : b ≤ skc S) : xk B a = xk B b ↔ a = b := by
  obtain ⟨-, -, -, -, -, -, -, h8, -⟩ := hX
  refine ⟨fun e => ?_, fun e => by rw [e]⟩
  have h1 := h8 a ha ha2
  rw [e, h8 b hb hb2] at h1
  have h2 := Option.some.inj h1
  unfold kce at h2
  simp only [Prod.mk.injEq, List.cons.injEq, Value.int.injEq] at h2
  exact ((nI_eq (by omega) (by omega)).mp h2.2.1).symm
theorem kr_inj {h : AH} {o : Nat} {B : XB} {S : PS} (hX : IX h o B S) (hk : skc S ≤ 20) {a b : Nat} (ha2 : a ≤ skc S) (hb2 : b ≤ skc S) : kr B a = kr B b ↔ a = b := by
  refine ⟨fun e => ?_, fun e => by rw [e]⟩
  rcases Nat.eq_zero_or_pos a with qa | qa
  · rw [qa] at e ⊢
    exact (kr_none e.symm).symm
  · rcases Nat.eq_zero_or_pos b with qb | qb
    · rw [qb] at e
      exact (kr_none e).trans qb.symm
    · rw [kr_pos qa, kr_pos qb] at e
      exact (IX_kinj hX hk qa ha2 qb hb2).mp (Option.some.inj e)
/-- names of live rows -/
def Nm (S : PS) : Prop := (∀ i, i < ssz S → 1 ≤ snm S i) ∧ (∀ i j, i < ssz S → j < ssz S → snm S i = snm S j → i = j)
theorem plc_of {S : PS} (hN : Nm S) {i : Nat} (hi : i < ssz S) : plc S (snm S i) = some i := by
  have h1 : ∀ n, i < n → n ≤ ssz S → pl (snm S) (snm S i) n = some i := by
    intro n
    induction n with
    | zero => intro h; omega
    | succ n ih =>
      intro h1 h2
      rw [pl]
      split
      · rename_i e
        rw [hN.2 n i (by omega) hi e]
      · rename_i e
        have : i ≠ n := fun q => e (by rw [q])
        exact ih (by omega) (by omega)
  unfold plc
  rw [if_neg (by have := hN.1 i hi; omega)]
  exact h1 _ hi (Nat.le_refl _)
/-- a name that is 0 or a live row's -/
def Lv (S : PS) (nm : Nat) : Prop := nm = 0 ∨ ∃ i, i < ssz S ∧ snm S i = nm
theorem sr_rr {B : XB} {S : PS} (hN : Nm S) {nm : Nat} (h : Lv S nm) : sr B nm = rr B S (plc S nm) := by
  rcases h with h | ⟨i, hi, h⟩
  · subst h; rfl
  · subst h
    rw [plc_of hN hi]
    unfold sr
    rw [if_neg (by have := hN.1 i hi; omega)]
    rfl
theorem sr_par {B : XB} {S : PS} (hN : Nm S) (hT : Tr S) {i : Nat} (hi : i < ssz S) : sr B (pnm S i) = rr B S (if 2 ≤ slo S i then some (par S i) else none) := by
  unfold pnm
  split
  · rename_i c
    have h1 := (hT.par_lev hi c).2
    unfold sr
    rw [if_neg (by have := hN.1 (par S i) (by omega); omega)]
    rfl
  · rfl
theorem rr_inj {h : AH} {o : Nat} {B : XB} {S : PS} (hX : IX h o B S) {a b : Option Nat} (ha : ∀ i, a = some i → i < ssz S) (hb : ∀ i, b = some i → i < ssz S) : rr B S a = rr B S b ↔ a = b := by
  obtain ⟨-, -, -, -, -, -, -, -, -, -, -, -, -, h14⟩ := hX
  refine ⟨fun e => ?_, fun e => by rw [e]⟩
  cases a with
  | none => cases b with
    | none => rfl
    | some j => cases e
  | some i => cases b with
    | none => cases e
    | some j => rw [h14 i j (ha i rfl) (hb j rfl) (Option.some.inj e)]
theorem cat_ref (a : Nat) : (Value.ref a).category = 1 := rfl
theorem cat_int (a : Int32) : (Value.int a).category = 1 := rfl
theorem cat_long (a : Int64) : (Value.long a).category = 2 := rfl
theorem cat_null : Value.null.category = 1 := rfl
