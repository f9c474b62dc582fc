-- twins, in the hierarchic order
def So (S : PS) : Prop := ∀ i j, i < j → j < ssz S → slo S i = slo S j → pnm S i = pnm S j → sso S i ≤ sso S j
theorem sib_of {S : PS} (hT : Tr S) {k j : Nat} (hkj : k < j) (hj : j < ssz S) (hl : slo S j = slo S k) (hb : ∀ z, k < z → z < j → slo S k ≤ slo S z) : pnm S j = pnm S k := by
  unfold pnm
  rw [hl]
  split
  · rename_i c
    congr 1
    unfold par
    rw [hl]
    have h0 := hT.1 (by omega)
    obtain ⟨a1, a2⟩ := ov_spec (f := slo S) (l := slo S k - 1) (by omega) k
    refine ov_uniq (Nat.le_trans (ov_le k) (by omega)) a1 (fun z h1 h2 => ?_)
    rcases Nat.lt_or_ge k z with q | q
    · by_cases e : z = j
      · subst e; omega
      · have := hb z q (by omega); omega
    · exact a2 z h1 q
  · rfl
theorem sib_btw {S : PS} (hT : Tr S) (hN : Nm S) {k j : Nat} (hkj : k < j) (hj : j < ssz S) (hl : slo S j = slo S k) (hp : pnm S j = pnm S k) : ∀ z, k < z → z < j → slo S k ≤ slo S z := by
  intro z h1 h2
  have h3 := hT.2.2 z (by omega)
  have h4 := hT.2.2 k (by omega)
  by_cases c : 2 ≤ slo S k
  · unfold pnm at hp
    rw [if_pos (by omega), if_pos c] at hp
    obtain ⟨p1, p2⟩ := hT.par_lev hj (by omega)
    obtain ⟨q1, q2⟩ := hT.par_lev (i := k) (by omega) c
    have e := hN.2 _ _ (by omega) (by omega) hp
    have := par_btw hT hj (by omega) (j := z) (by omega) (by omega)
    omega
  · omega
def Twn (S : PS) (k p : Nat) : Prop := ∃ j, k < j ∧ j < ssz S ∧ sso S j = sso S k ∧ pnm S j = pnm S k ∧ rel (sop S p) (sky S j) (spy S p) = true
theorem slo_so {S : PS} {j k : Nat} (h : sso S j = sso S k) : slo S j = slo S k := by unfold slo; rw [h]
theorem ltw_iff {S : PS} (hT : Tr S) (hN : Nm S) {k p : Nat} (hk : k < ssz S) : ∀ (n j : Nat), ssz S ≤ j + n → k < j → (ltw S p k n j = true ↔ ∃ j2, j ≤ j2 ∧ j2 < ssz S ∧ sso S j2 = sso S k ∧ pnm S j2 = pnm S k ∧ rel (sop S p) (sky S j2) (spy S p) = true) := by
  intro n
  induction n with
  | zero =>
    intro j hj hkj
    rw [ltw]
    exact ⟨fun q => (by cases q), fun ⟨j2, a, b, _⟩ => (by omega)⟩
  | succ n ih =>
    intro j hj hkj
    rw [ltw]
    by_cases c : j < ssz S ∧ slo S k ≤ slo S j
    · rw [if_pos c]
      by_cases c2 : (sso S j = sso S k ∧ pnm S j = pnm S k) ∧ rel (sop S p) (sky S j) (spy S p) = true
      · rw [if_pos c2]
        exact ⟨fun _ => ⟨j, Nat.le_refl _, c.1, c2.1.1, c2.1.2, c2.2⟩, fun _ => rfl⟩
      · rw [if_neg c2, ih (j + 1) (by omega) (by omega)]
        constructor
        · rintro ⟨j2, a, b⟩
          exact ⟨j2, by omega, b⟩
        · rintro ⟨j2, a, b1, b2, b3, b4⟩
          refine ⟨j2, ?_, b1, b2, b3, b4⟩
          rcases Nat.lt_or_ge j j2 with q | q
          · exact q
          · have e : j2 = j := by omega
            subst e
            exact absurd ⟨⟨b2, b3⟩, b4⟩ c2
    · rw [if_neg c]
      refine ⟨fun q => (by cases q), fun ⟨j2, a, b1, b2, b3, b4⟩ => ?_⟩
      have hjz : j < ssz S := by omega
      have hlt : slo S j < slo S k := by
        rcases Nat.lt_or_ge (slo S j) (slo S k) with q | q
        · exact q
        · exact absurd ⟨hjz, q⟩ c
      have hl2 := slo_so b2
      by_cases e : j = j2
      · subst e; omega
      · have := sib_btw hT hN (by omega) b1 hl2 b3 j hkj (by omega)
        omega
theorem lat_iff {S : PS} (hT : Tr S) (hN : Nm S) (hSo : So S) {k p : Nat} (hk : k < ssz S) : ∀ (n j : Nat), ssz S ≤ j + n → k < j → (∀ z, k < z → z < j → slo S k ≤ slo S z) → (j < ssz S → slo S j ≤ slo S k) → (lat S p k n j = true ↔ ∃ j2, j ≤ j2 ∧ j2 < ssz S ∧ sso S j2 = sso S k ∧ pnm S j2 = pnm S k ∧ rel (sop S p) (sky S j2) (spy S p) = true) := by
  intro n
  induction n with
  | zero =>
    intro j hj hkj hb hl
    rw [lat]
    exact ⟨fun q => (by cases q), fun ⟨j2, a, b, _⟩ => (by omega)⟩
  | succ n ih =>
    intro j hj hkj hb hl
    rw [lat]
    have b1 := bhd_lt S j
    by_cases c : j < ssz S ∧ slo S j = slo S k ∧ sso S j = sso S k
    · rw [if_pos c]
      have hp := sib_of hT hkj c.1 c.2.1 hb
      have ih2 := ih (bhd S j) (by omega) (by omega) (fun z h1 h2 => by
        rcases Nat.lt_trichotomy z j with q | q | q
        · exact hb z h1 q
        · rw [q]; omega
        · have := bhd_in S q h2; omega) (fun h => by have := bhd_at S (t := j) h; omega)
      constructor
      · intro h
        rcases Bool.or_eq_true_iff.mp h with h | h
        · exact ⟨j, Nat.le_refl _, c.1, c.2.2, hp, h⟩
        · obtain ⟨j2, a, b⟩ := ih2.mp h
          exact ⟨j2, by omega, b⟩
      · rintro ⟨j2, a, b1, b2, b3, b4⟩
        refine Bool.or_eq_true_iff.mpr ?_
        by_cases e : j2 = j
        · subst e; exact Or.inl b4
        · refine Or.inr (ih2.mpr ⟨j2, ?_, b1, b2, b3, b4⟩)
          rcases Nat.lt_or_ge j2 (bhd S j) with q | q
          · have := bhd_in S (t := j) (j := j2) (by omega) q
            have := slo_so b2
            omega
          · exact q
    · rw [if_neg c]
      refine ⟨fun q => (by cases q), fun ⟨j2, a, b1, b2, b3, b4⟩ => ?_⟩
      have hjz : j < ssz S := by omega
      have hl2 := slo_so b2
      have hlj := hl hjz
      by_cases e : j = j2
      · subst e
        exact absurd ⟨hjz, hl2, b2⟩ c
      · have h5 := sib_btw hT hN (by omega) b1 hl2 b3 j hkj (by omega)
        have e1 : slo S j = slo S k := by omega
        have hp := sib_of hT hkj hjz e1 hb
        have s1 := hSo k j hkj hjz e1.symm hp.symm
        have s2 := hSo j j2 (by omega) b1 (by omega) (by rw [hp, b3])
        exact absurd ⟨hjz, e1, by omega⟩ c
theorem ltw_later {S : PS} (hT : Tr S) (hN : Nm S) (hSo : So S) {k p i : Nat} (hk : k < ssz S) (hki : k ≤ i) (hib : i < bhd S k) : ltw S p k (ssz S) (i + 1) = later S k p := by
  have b1 := bhd_lt S k
  have b2 := bhd_ub S hk
  have h1 := ltw_iff hT hN (p := p) hk (ssz S) (i + 1) (by omega) (by omega)
  have h2 := lat_iff hT hN hSo (p := p) hk (ssz S) (bhd S k) (by omega) b1 (fun z a b => Nat.le_of_lt (bhd_in S a b)) (fun h => bhd_at S h)
  unfold later
  rw [Bool.eq_iff_iff, h1, h2]
  constructor
  · rintro ⟨j2, a, b1, b2, b3, b4⟩
    refine ⟨j2, ?_, b1, b2, b3, b4⟩
    rcases Nat.lt_or_ge j2 (bhd S k) with q | q
    · have := bhd_in S (t := k) (j := j2) (by omega) q
      have := slo_so b2
      omega
    · exact q
  · rintro ⟨j2, a, b⟩
    exact ⟨j2, by omega, b⟩
/-- the row that a part tells holds the row that is tried -/
theorem okd_in {S : PS} (hT : Tr S) {i k kd : Nat} (hi : i < ssz S) (h : okd S (some i) kd = some k) (hl : 1 ≤ slv S kd) : k ≤ i ∧ i < bhd S k := by
  obtain ⟨a1, a2, a3, a4⟩ := okd_lt h
  have h0 := hT.1 (by omega)
  obtain ⟨b1, b2⟩ := ov_spec (f := slo S) (l := slv S kd) (by omega) i
  rw [← a3] at b1 b2
  have e : slo S k = slv S kd := by unfold slo; rw [a2]
  exact ⟨a1, bhd_le S (fun j h1 h2 => by have := b2 j h1 h2; omega) a1 hi⟩
