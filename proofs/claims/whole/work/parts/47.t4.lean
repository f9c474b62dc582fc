-- the rows right below a row (or below none): where insert looks
def pl0 (S : PS) : Option Nat → Nat
  | none => 0
  | some p => snm S p
def lvq (S : PS) : Option Nat → Nat
  | none => 1
  | some p => slo S p + 1
def FS (P : Nat → Prop) (e k j : Nat) : Prop := k ≤ j ∧ j ≤ e ∧ (∀ z, k ≤ z → z < j → ¬ P z) ∧ (j < e → P j)
theorem FS_uniq {P : Nat → Prop} {e k i j : Nat} (hi : FS P e k i) (hj : FS P e k j) : i = j := by
  obtain ⟨a1, a2, a3, a4⟩ := hi
  obtain ⟨b1, b2, b3, b4⟩ := hj
  rcases Nat.lt_trichotomy i j with q | q | q
  · exact absurd (a4 (by omega)) (b3 i a1 q)
  · exact q
  · exact absurd (b4 (by omega)) (a3 j b1 q)
section T4
variable {S : PS} {q : Option Nat}
theorem end_ub (hq : ∀ p, q = some p → p < ssz S) : endS S q ≤ ssz S ∧ nx q ≤ endS S q := by
  cases q with
  | none => exact ⟨Nat.le_refl _, Nat.zero_le _⟩
  | some p => exact ⟨bhd_ub S (hq p rfl), bhd_lt S p⟩
theorem ch_lo (hT : Tr S) (hq : ∀ p, q = some p → p < ssz S) {i : Nat} (h1 : nx q ≤ i) (h2 : i < endS S q) : lvq S q ≤ slo S i := by
  have h3 := (end_ub hq).1
  cases q with
  | none => exact hT.2.2 i (by omega)
  | some p => exact bhd_in S (t := p) (j := i) h1 h2
theorem ch_first (hT : Tr S) (hq : ∀ p, q = some p → p < ssz S) (h : nx q < endS S q) : slo S (nx q) = lvq S q := by
  have h3 := (end_ub hq).1
  cases q with
  | none => exact hT.1 (by show 0 < ssz S; exact Nat.lt_of_lt_of_le h h3)
  | some p =>
    have h4 : slo S p < slo S (p + 1) := bhd_in S (Nat.lt_succ_self p) h
    have h5 := hT.2.1 p (by show p + 1 < ssz S; exact Nat.lt_of_lt_of_le h h3)
    show slo S (p + 1) = slo S p + 1
    omega
theorem ch_par (hT : Tr S) (hq : ∀ p, q = some p → p < ssz S) {i : Nat} (h1 : nx q ≤ i) (h2 : i < endS S q) (h3 : slo S i = lvq S q) : pnm S i = pl0 S q := by
  have h4 := (end_ub hq).1
  cases q with
  | none =>
    unfold pnm
    rw [if_neg (by rw [h3]; show ¬ 2 ≤ 1; omega)]
    rfl
  | some p =>
    have h5 := hT.2.2 p (hq p rfl)
    have h6 : slo S i = slo S p + 1 := h3
    have h7 : p + 1 ≤ i := h1
    unfold pnm
    rw [if_pos (by omega)]
    show snm S (par S i) = snm S p
    congr 1
    unfold par
    rw [h6]
    refine ov_uniq (by omega) (by omega) (fun j a b => ?_)
    have := bhd_in S (t := p) (j := j) a (Nat.lt_of_le_of_lt b h2)
    omega
theorem ch_of (hT : Tr S) (hN : Nm S) (hq : ∀ p, q = some p → p < ssz S) {i : Nat} (hi : i < ssz S) (h : pnm S i = pl0 S q) : nx q ≤ i ∧ i < endS S q ∧ slo S i = lvq S q := by
  have h1 := hT.2.2 i hi
  cases q with
  | none =>
    refine ⟨Nat.zero_le _, hi, ?_⟩
    have h2 : pnm S i = 0 := h
    unfold pnm at h2
    by_cases c : 2 ≤ slo S i
    · rw [if_pos c] at h2
      have h3 := hT.par_lev hi c
      have := hN.1 (par S i) (by omega)
      omega
    · show slo S i = 1
      omega
  | some p =>
    have hp := hq p rfl
    have h2 : pnm S i = snm S p := h
    have h5 := hN.1 p hp
    by_cases c : 2 ≤ slo S i
    · obtain ⟨h3, h4⟩ := hT.par_lev hi c
      unfold pnm at h2
      rw [if_pos c] at h2
      have e : par S i = p := hN.2 _ _ (by omega) hp h2
      rw [e] at h3 h4
      refine ⟨h4, ?_, by show slo S i = slo S p + 1; omega⟩
      have h6 := inR_par hT hp hi (by omega)
      rw [if_pos c, e, inR_self] at h6
      exact (of_decide_eq_true h6).2
    · unfold pnm at h2
      rw [if_neg c] at h2
      omega
theorem ch_iff (hT : Tr S) (hN : Nm S) (hq : ∀ p, q = some p → p < ssz S) {i : Nat} (h1 : nx q ≤ i) (h2 : i < endS S q) : pnm S i = pl0 S q ↔ slo S i = lvq S q := by
  have h4 := (end_ub hq).1
  exact ⟨fun h => (ch_of hT hN hq (by omega) h).2.2, fun h => ch_par hT hq h1 h2 h⟩
theorem ch_next (hT : Tr S) (hq : ∀ p, q = some p → p < ssz S) {k : Nat} (h1 : nx q ≤ k) (h2 : k < endS S q) (h3 : slo S k = lvq S q) : bhd S k ≤ endS S q ∧ (bhd S k < endS S q → slo S (bhd S k) = lvq S q) ∧ ∀ z, k < z → z < bhd S k → ¬ slo S z = lvq S q := by
  have h4 := (end_ub hq).1
  have hb := bhd_lt S k
  have hle : bhd S k ≤ endS S q := by
    cases q with
    | none => exact bhd_ub S h2
    | some p =>
      have h5 : slo S k = slo S p + 1 := h3
      rcases Nat.lt_or_ge (bhd S p) (bhd S k) with z | z
      · have h6 := bhd_ub S (i := k) (Nat.lt_of_lt_of_le h2 h4)
        have h8 : k < bhd S p := h2
        have h7 := bhd_in S (t := k) (j := bhd S p) h8 z
        have h9 := bhd_at S (t := p) (by omega)
        omega
      · exact z
  refine ⟨hle, fun h => ?_, fun z a b e => ?_⟩
  · have h5 := bhd_at S (t := k) (by omega)
    have h6 := ch_lo hT hq (i := bhd S k) (by omega) h
    omega
  · have h5 := bhd_in S a b
    omega
theorem ch_so (hT : Tr S) (hN : Nm S) (hq : ∀ p, q = some p → p < ssz S) (hSo : So S) {i j : Nat} (h1 : nx q ≤ i) (hij : i < j) (h2 : j < endS S q) (hi : slo S i = lvq S q) (hj : slo S j = lvq S q) : sso S i ≤ sso S j := by
  have h4 := (end_ub hq).1
  exact hSo i j hij (by omega) (by rw [hi, hj]) (by rw [ch_par hT hq h1 (by omega) hi, ch_par hT hq (by omega) h2 hj])
theorem sk1_FS (hT : Tr S) (hq : ∀ p, q = some p → p < ssz S) {kd : Nat} : ∀ (n k : Nat), endS S q ≤ k + n → nx q ≤ k → k ≤ endS S q → (k < endS S q → slo S k = lvq S q) → FS (fun i => slo S i = lvq S q ∧ ¬ sso S i < kd) (endS S q) k (sk1 S kd (endS S q) n k)
  | 0, k, h1, h2, h3, h4 => ⟨Nat.le_refl _, h3, fun z a b => by rw [sk1] at b; omega, fun h => by rw [sk1] at h; omega⟩
  | n + 1, k, h1, h2, h3, h4 => by
    rw [sk1]
    by_cases c : k < endS S q ∧ sso S k < kd
    · rw [if_pos c]
      obtain ⟨n1, n2, n3⟩ := ch_next hT hq h2 c.1 (h4 c.1)
      have hb := bhd_lt S k
      obtain ⟨a1, a2, a3, a4⟩ := sk1_FS hT hq (kd := kd) n (bhd S k) (by omega) (by omega) n1 n2
      refine ⟨by omega, a2, fun z b1 b2 b3 => ?_, a4⟩
      rcases Nat.lt_or_ge z (bhd S k) with y | y
      · by_cases e : z = k
        · rw [e] at b3; exact b3.2 c.2
        · exact n3 z (by omega) y b3.1
      · exact a3 z y b2 b3
    · rw [if_neg c]
      exact ⟨Nat.le_refl _, h3, fun z a b => by omega, fun h => ⟨h4 h, fun y => c ⟨h, y⟩⟩⟩
theorem mv1_FS (hT : Tr S) (hq : ∀ p, q = some p → p < ssz S) {kd : Nat} {key : Int64} {qq : Option Nat} : ∀ (n k : Nat), endS S q ≤ k + n → nx q ≤ k → k ≤ endS S q → (k < endS S q → slo S k = lvq S q) → FS (fun i => slo S i = lvq S q ∧ ¬ (sso S i = kd ∧ mor S kd key qq i = true)) (endS S q) k (mv1 S kd key (endS S q) qq n k)
  | 0, k, h1, h2, h3, h4 => ⟨Nat.le_refl _, h3, fun z a b => by rw [mv1] at b; omega, fun h => by rw [mv1] at h; omega⟩
  | n + 1, k, h1, h2, h3, h4 => by
    rw [mv1]
    by_cases c : (k < endS S q ∧ sso S k = kd) ∧ mor S kd key qq k = true
    · rw [if_pos c]
      obtain ⟨n1, n2, n3⟩ := ch_next hT hq h2 c.1.1 (h4 c.1.1)
      have hb := bhd_lt S k
      obtain ⟨a1, a2, a3, a4⟩ := mv1_FS hT hq (kd := kd) (key := key) (qq := qq) n (bhd S k) (by omega) (by omega) n1 n2
      refine ⟨by omega, a2, fun z b1 b2 b3 => ?_, a4⟩
      rcases Nat.lt_or_ge z (bhd S k) with y | y
      · by_cases e : z = k
        · rw [e] at b3; exact b3.2 ⟨c.1.2, c.2⟩
        · exact n3 z (by omega) y b3.1
      · exact a3 z y b2 b3
    · rw [if_neg c]
      exact ⟨Nat.le_refl _, h3, fun z a b => by omega, fun h => ⟨h4 h, fun y => c ⟨⟨h, y.1⟩, y.2⟩⟩⟩
theorem at0_FS (hT : Tr S) (hq : ∀ p, q = some p → p < ssz S) {kd : Nat} : FS (fun i => slo S i = lvq S q ∧ ¬ sso S i < kd) (endS S q) (nx q) (at0 S kd q) :=
  sk1_FS hT hq (ssz S) (nx q) (by have := (end_ub hq).1; omega) (Nat.le_refl _) (end_ub hq).2 (ch_first hT hq)
theorem scT_iff (hT : Tr S) (hN : Nm S) (hq : ∀ p, q = some p → p < ssz S) (hSo : So S) {kd : Nat} {key : Int64} : ∀ (n k : Nat), endS S q ≤ k + n → nx q ≤ k → k ≤ endS S q → (k < endS S q → slo S k = lvq S q) → (∀ z, k ≤ z → z < endS S q → slo S z = lvq S q → kd ≤ sso S z) → (scT S kd key (endS S q) n k = true ↔ ∃ j, k ≤ j ∧ j < endS S q ∧ slo S j = lvq S q ∧ sso S j = kd ∧ sky S j = key)
  | 0, k, h1, h2, h3, h4, h5 => by
    rw [scT]
    exact ⟨fun y => (by cases y), fun ⟨j, a, b, _⟩ => (by omega)⟩
  | n + 1, k, h1, h2, h3, h4, h5 => by
    rw [scT]
    by_cases c : k < endS S q ∧ sso S k = kd
    · rw [if_pos c]
      obtain ⟨n1, n2, n3⟩ := ch_next hT hq h2 c.1 (h4 c.1)
      have hb := bhd_lt S k
      have ih := scT_iff hT hN hq hSo (kd := kd) (key := key) n (bhd S k) (by omega) (by omega) n1 n2 (fun z a b => h5 z (by omega) b)
      rw [Bool.or_eq_true_iff, ih]
      constructor
      · rintro (y | ⟨j, a, b⟩)
        · exact ⟨k, Nat.le_refl _, c.1, h4 c.1, c.2, of_decide_eq_true y⟩
        · exact ⟨j, by omega, b⟩
      · rintro ⟨j, a, b1, b2, b3, b4⟩
        by_cases e : j = k
        · rw [e] at b4; exact Or.inl (decide_eq_true b4)
        · refine Or.inr ⟨j, ?_, b1, b2, b3, b4⟩
          rcases Nat.lt_or_ge j (bhd S k) with y | y
          · exact absurd b2 (n3 j (by omega) y)
          · exact y
    · rw [if_neg c]
      refine ⟨fun y => (by cases y), fun ⟨j, a, b1, b2, b3, b4⟩ => ?_⟩
      have hk : k < endS S q := by omega
      by_cases e : k = j
      · rw [← e] at b3; exact absurd ⟨hk, b3⟩ c
      · have s1 := ch_so hT hN hq hSo h2 (show k < j by omega) b1 (h4 hk) b2
        have s2 := h5 k (Nat.le_refl _) hk (h4 hk)
        exact absurd ⟨hk, by omega⟩ c
theorem scE_no (hT : Tr S) (hq : ∀ p, q = some p → p < ssz S) {kd : Nat} {key : Int64} {pos : Option Nat} : ∀ (n k : Nat) (qq : Option Nat), nx q ≤ k → k ≤ endS S q → (k < endS S q → slo S k = lvq S q) → (¬ ∃ j, pos = some j ∧ k ≤ j ∧ j < endS S q ∧ slo S j = lvq S q ∧ sso S j = kd ∧ sky S j = key) → scE S kd key (endS S q) pos n k qq = qq
  | 0, k, qq, _, _, _, _ => rfl
  | n + 1, k, qq, h2, h3, h4, h5 => by
    rw [scE]
    by_cases c : k < endS S q ∧ sso S k = kd
    · rw [if_pos c]
      obtain ⟨n1, n2, n3⟩ := ch_next hT hq h2 c.1 (h4 c.1)
      have hb := bhd_lt S k
      rw [if_neg (fun y => h5 ⟨k, y.2, Nat.le_refl _, c.1, h4 c.1, c.2, y.1⟩)]
      exact scE_no hT hq n (bhd S k) qq (by omega) n1 n2 (fun ⟨j, y1, y2, y3⟩ => h5 ⟨j, y1, by omega, y3⟩)
    · rw [if_neg c]
theorem scE_yes (hT : Tr S) (hN : Nm S) (hq : ∀ p, q = some p → p < ssz S) (hSo : So S) {kd : Nat} {key : Int64} {pos : Option Nat} {j : Nat} (hp : pos = some j) (hj : j < endS S q ∧ slo S j = lvq S q ∧ sso S j = kd ∧ sky S j = key) : ∀ (n k : Nat) (qq : Option Nat), endS S q ≤ k + n → nx q ≤ k → k ≤ endS S q → (k < endS S q → slo S k = lvq S q) → (∀ z, k ≤ z → z < endS S q → slo S z = lvq S q → kd ≤ sso S z) → k ≤ j → scE S kd key (endS S q) pos n k qq = some j
  | 0, k, qq, h1, _, _, _, _, h6 => by omega
  | n + 1, k, qq, h1, h2, h3, h4, h5, h6 => by
    have hk : k < endS S q := by omega
    have hks := h4 hk
    have hkd : sso S k = kd := by
      by_cases e : k = j
      · rw [e]; exact hj.2.2.1
      · have s1 := ch_so hT hN hq hSo h2 (show k < j by omega) hj.1 hks hj.2.1
        have s2 := h5 k (Nat.le_refl _) hk hks
        omega
    obtain ⟨n1, n2, n3⟩ := ch_next hT hq h2 hk hks
    have hb := bhd_lt S k
    rw [scE, if_pos ⟨hk, hkd⟩]
    by_cases e : k = j
    · rw [if_pos ⟨by rw [e]; exact hj.2.2.2, by rw [hp, e]⟩]
      rw [scE_no hT hq n (bhd S k) (some k) (by omega) n1 n2 (fun ⟨i, y1, y2, y3⟩ => by rw [hp] at y1; cases y1; omega), e]
    · refine scE_yes hT hN hq hSo hp hj n (bhd S k) _ (by omega) (by omega) n1 n2 (fun z a b => h5 z (by omega) b) ?_
      rcases Nat.lt_or_ge j (bhd S k) with y | y
      · exact absurd hj.2.1 (n3 j (by omega) y)
      · exact y
/-- what the class asks of a row right below the same parent -/
def plcd (S : PS) (kd : Nat) (key : Int64) (q : Option Nat) : Option Nat → Bool
  | none => false
  | some j => decide ((sso S j = kd ∧ pnm S j = pl0 S q) ∧ sky S j = key)
def ga (S : PS) (kd : Nat) (key : Int64) (q pos : Option Nat) (i : Nat) : Bool := if sso S i = kd then (if sky S i = key then (if sru S kd = 0 then true else if sru S kd = 1 then false else (!(plcd S kd key q pos) || decide (pos = some i))) else decide (key < sky S i)) else decide (kd < sso S i)
theorem ga_at1 (hT : Tr S) (hN : Nm S) (hq : ∀ p, q = some p → p < ssz S) (hSo : So S) {kd : Nat} {key : Int64} {pos : Option Nat} (hpos : ∀ j, pos = some j → j < ssz S) (hru : sru S kd ≤ 2) {r : Nat} (hr : FS (fun i => pnm S i = pl0 S q ∧ ga S kd key q pos i = true) (endS S q) (nx q) r) : r = at1 S kd key pos q := by
  obtain ⟨u1, u2⟩ := end_ub hq
  obtain ⟨a1, a2, a3, a4⟩ := at0_FS hT hq (kd := kd)
  have hge : ∀ z, at0 S kd q ≤ z → z < endS S q → slo S z = lvq S q → kd ≤ sso S z := by
    intro z y1 y2 y3
    obtain ⟨y4, y5⟩ := a4 (by omega)
    by_cases e : at0 S kd q = z
    · rw [e] at y5; omega
    · have := ch_so hT hN hq hSo a1 (show at0 S kd q < z by omega) y2 y4 y3
      omega
  generalize eq : scE S kd key (endS S q) pos (ssz S) (at0 S kd q) none = qq
  have hm := mv1_FS hT hq (kd := kd) (key := key) (qq := qq) (ssz S) (at0 S kd q) (by omega) a1 a2 (fun h => (a4 h).1)
  have eat : at1 S kd key pos q = mv1 S kd key (endS S q) qq (ssz S) (at0 S kd q) := by
    unfold at1
    rw [eq]
  rw [eat]
  obtain ⟨m1, m2, m3, m4⟩ := hm
  have href : FS (fun i => slo S i = lvq S q ∧ (kd < sso S i ∨ (sso S i = kd ∧ ¬ mor S kd key qq i = true))) (endS S q) (nx q) (mv1 S kd key (endS S q) qq (ssz S) (at0 S kd q)) := by
    refine ⟨by omega, m2, fun z y1 y2 y3 => ?_, fun y => ?_⟩
    · rcases Nat.lt_or_ge z (at0 S kd q) with w | w
      · refine a3 z y1 w ⟨y3.1, ?_⟩
        rcases y3.2 with v | v
        · omega
        · omega
      · refine m3 z w y2 ⟨y3.1, fun v => ?_⟩
        rcases y3.2 with t | t
        · omega
        · exact t.2 v.2
    · obtain ⟨y1, y2⟩ := m4 y
      refine ⟨y1, ?_⟩
      have y3 := hge _ m1 y y1
      by_cases e : sso S (mv1 S kd key (endS S q) qq (ssz S) (at0 S kd q)) = kd
      · exact Or.inr ⟨e, fun v => y2 ⟨e, v⟩⟩
      · exact Or.inl (by omega)
  have hpl : ∀ j, pos = some j → plcd S kd key q pos = true → (nx q ≤ j ∧ j < endS S q ∧ slo S j = lvq S q ∧ sso S j = kd ∧ sky S j = key) ∧ qq = some j := by
    intro j hj hp
    rw [hj] at hp
    obtain ⟨⟨p1, p2⟩, p3⟩ := of_decide_eq_true hp
    obtain ⟨c1, c2, c3⟩ := ch_of hT hN hq (hpos j hj) p2
    refine ⟨⟨c1, c2, c3, p1, p3⟩, ?_⟩
    rw [← eq]
    refine scE_yes hT hN hq hSo hj ⟨c2, c3, p1, p3⟩ (ssz S) _ none (by omega) a1 a2 (fun h => (a4 h).1) hge ?_
    rcases Nat.lt_or_ge j (at0 S kd q) with w | w
    · exact absurd ⟨c3, by omega⟩ (a3 j c1 w)
    · exact w
  have hnp : plcd S kd key q pos = false → qq = none := by
    intro hp
    rw [← eq]
    refine scE_no hT hq (ssz S) _ none a1 a2 (fun h => (a4 h).1) (fun ⟨j, y1, y2, y3, y4, y5, y6⟩ => ?_)
    rw [y1] at hp
    exact absurd ⟨⟨y5, ch_par hT hq (by omega) y3 y4⟩, y6⟩ (of_decide_eq_false hp)
  have heqv : ∀ z, nx q ≤ z → z < endS S q → (∀ j, pos = some j → plcd S kd key q pos = true → sru S kd = 2 → z ≤ j) → ((pnm S z = pl0 S q ∧ ga S kd key q pos z = true) ↔ (slo S z = lvq S q ∧ (kd < sso S z ∨ (sso S z = kd ∧ ¬ mor S kd key qq z = true)))) := by
    intro z z1 z2 z3
    rw [ch_iff hT hN hq z1 z2]
    refine and_congr_right (fun _ => ?_)
    unfold ga
    by_cases e : sso S z = kd
    · rw [if_pos e]
      have hlt : (kd < sso S z ∨ (sso S z = kd ∧ ¬ mor S kd key qq z = true)) ↔ ¬ mor S kd key qq z = true := ⟨fun y => by rcases y with y | y; omega; exact y.2, fun y => Or.inr ⟨e, y⟩⟩
      rw [hlt]
      unfold mor
      by_cases e2 : sky S z = key
      · have hni : ¬ sky S z < key := by rw [e2]; exact Int64.lt_irrefl
        rw [if_pos e2, decide_eq_true e2, decide_eq_false hni]
        rcases (show sru S kd = 0 ∨ sru S kd = 1 ∨ sru S kd = 2 by omega) with r0 | r0 | r0
        · rw [r0]; simp
        · rw [r0]; simp
        · rw [r0]
          simp only [show ¬ (2 : Nat) = 0 by decide, show ¬ (2 : Nat) = 1 by decide, if_false, Bool.false_or, Bool.true_and, decide_false, decide_true]
          cases hp : plcd S kd key q pos with
          | false =>
            rw [hnp hp]
            simp [ltq]
          | true =>
            cases hpo : pos with
            | none => rw [hpo] at hp; cases hp
            | some j =>
              obtain ⟨-, y2⟩ := hpl j hpo hp
              have y3 := z3 j hpo hp r0
              rw [y2]
              simp only [ltq, Bool.not_true, Bool.false_or, decide_eq_true_eq, Option.some.injEq]
              omega
      · rw [if_neg e2, decide_eq_false e2]
        simp only [Bool.false_and, Bool.or_false, decide_eq_true_eq]
        refine ⟨fun y => Int64.lt_asymm y, fun y => ?_⟩
        rcases Int64.lt_or_eq_of_le (Int64.not_lt.mp y) with w | w
        · exact w
        · exact absurd w.symm e2
    · rw [if_neg e]
      simp only [decide_eq_true_eq]
      exact ⟨fun y => Or.inl y, fun y => by rcases y with y | y; exact y; exact absurd y.1 e⟩
  refine FS_uniq (P := fun i => slo S i = lvq S q ∧ (kd < sso S i ∨ (sso S i = kd ∧ ¬ mor S kd key qq i = true))) ?_ href
  obtain ⟨r1, r2, r3, r4⟩ := hr
  have hrj : ∀ j, pos = some j → plcd S kd key q pos = true → sru S kd = 2 → r ≤ j := by
    intro j hj hp h2
    obtain ⟨⟨y1, y2, y3, y4, y5⟩, -⟩ := hpl j hj hp
    rcases Nat.lt_or_ge j r with w | w
    · refine absurd ⟨ch_par hT hq y1 y2 y3, ?_⟩ (r3 j y1 w)
      unfold ga
      rw [if_pos y4, if_pos y5, h2, if_neg (by decide), if_neg (by decide), hj, decide_eq_true rfl]
      exact Bool.or_true _
    · exact w
  refine ⟨r1, r2, fun z y1 y2 y3 => ?_, fun y => ?_⟩
  · exact r3 z y1 y2 ((heqv z y1 (by omega) (fun j a b c => by have := hrj j a b c; omega)).mpr y3)
  · exact (heqv r r1 y (fun j a b c => hrj j a b c)).mp (r4 y)
/-- the place for a new row -/
theorem at1_ok (hT : Tr S) (hN : Nm S) (hq : ∀ p, q = some p → p < ssz S) (hSo : So S) {kd : Nat} {key : Int64} {pos : Option Nat} : nx q ≤ at1 S kd key pos q ∧ at1 S kd key pos q ≤ endS S q ∧ (at1 S kd key pos q < ssz S → slo S (at1 S kd key pos q) ≤ lvq S q) ∧ (∀ z, nx q ≤ z → z < at1 S kd key pos q → slo S z = lvq S q → sso S z ≤ kd) ∧ (∀ z, at1 S kd key pos q ≤ z → z < endS S q → slo S z = lvq S q → kd ≤ sso S z) := by
  obtain ⟨u1, u2⟩ := end_ub hq
  obtain ⟨a1, a2, a3, a4⟩ := at0_FS hT hq (kd := kd)
  have hge : ∀ z, at0 S kd q ≤ z → z < endS S q → slo S z = lvq S q → kd ≤ sso S z := by
    intro z y1 y2 y3
    obtain ⟨y4, y5⟩ := a4 (by omega)
    by_cases e : at0 S kd q = z
    · rw [e] at y5; omega
    · have := ch_so hT hN hq hSo a1 (show at0 S kd q < z by omega) y2 y4 y3
      omega
  obtain ⟨m1, m2, m3, m4⟩ := mv1_FS hT hq (kd := kd) (key := key) (qq := scE S kd key (endS S q) pos (ssz S) (at0 S kd q) none) (ssz S) (at0 S kd q) (by omega) a1 a2 (fun h => (a4 h).1)
  change at0 S kd q ≤ at1 S kd key pos q at m1
  change at1 S kd key pos q ≤ endS S q at m2
  refine ⟨by omega, m2, fun h => ?_, fun z y1 y2 y3 => ?_, fun z y1 y2 y3 => hge z (by omega) y2 y3⟩
  · rcases Nat.lt_or_ge (at1 S kd key pos q) (endS S q) with w | w
    · exact Nat.le_of_eq (m4 w).1
    · have e : at1 S kd key pos q = endS S q := by omega
      rw [e] at h ⊢
      cases q with
      | none => exact absurd h (Nat.lt_irrefl _)
      | some p =>
        have : slo S (bhd S p) ≤ slo S p := bhd_at S h
        show slo S (bhd S p) ≤ slo S p + 1
        omega
  · rcases Nat.lt_or_ge z (at0 S kd q) with w | w
    · rcases Nat.lt_or_ge kd (sso S z) with v | v
      · exact absurd ⟨y3, by omega⟩ (a3 z y1 w)
      · exact v
    · rcases Nat.lt_or_ge kd (sso S z) with v | v
      · refine absurd ⟨y3, fun t => ?_⟩ (m3 z w y2)
        omega
      · exact v
theorem scT_at0 (hT : Tr S) (hN : Nm S) (hq : ∀ p, q = some p → p < ssz S) (hSo : So S) {kd : Nat} {key : Int64} : scT S kd key (endS S q) (ssz S) (at0 S kd q) = true ↔ ∃ j, j < ssz S ∧ (sso S j = kd ∧ pnm S j = pl0 S q) ∧ sky S j = key := by
  obtain ⟨u1, u2⟩ := end_ub hq
  obtain ⟨a1, a2, a3, a4⟩ := at0_FS hT hq (kd := kd)
  have hge : ∀ z, at0 S kd q ≤ z → z < endS S q → slo S z = lvq S q → kd ≤ sso S z := by
    intro z y1 y2 y3
    obtain ⟨y4, y5⟩ := a4 (by omega)
    by_cases e : at0 S kd q = z
    · rw [e] at y5; omega
    · have := ch_so hT hN hq hSo a1 (show at0 S kd q < z by omega) y2 y4 y3
      omega
  rw [scT_iff hT hN hq hSo (ssz S) (at0 S kd q) (by omega) a1 a2 (fun h => (a4 h).1) hge]
  constructor
  · rintro ⟨j, y1, y2, y3, y4, y5⟩
    exact ⟨j, by omega, ⟨y4, ch_par hT hq (by omega) y2 y3⟩, y5⟩
  · rintro ⟨j, y1, ⟨y2, y3⟩, y4⟩
    obtain ⟨c1, c2, c3⟩ := ch_of hT hN hq y1 y3
    refine ⟨j, ?_, c2, c3, y2, y4⟩
    rcases Nat.lt_or_ge j (at0 S kd q) with w | w
    · exact absurd ⟨c3, by omega⟩ (a3 j c1 w)
    · exact w
end T4
