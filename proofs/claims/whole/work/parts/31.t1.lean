-- rows in hierarchic order, by their levels
def par (S : PS) (i : Nat) : Nat := ov (slo S) (slo S i - 1) i
def Tr (S : PS) : Prop := (0 < ssz S → slo S 0 = 1) ∧ (∀ i, i + 1 < ssz S → slo S (i + 1) ≤ slo S i + 1) ∧ (∀ i, i < ssz S → 1 ≤ slo S i)
theorem ov_spec {f : Nat → Nat} {l : Nat} (h0 : f 0 ≤ l) : ∀ i, f (ov f l i) ≤ l ∧ ∀ j, ov f l i < j → j ≤ i → l < f j
  | 0 => ⟨h0, fun j h1 h2 => by rw [ov] at h1; omega⟩
  | i + 1 => by
    rw [ov]
    split
    · rename_i c
      obtain ⟨a, b⟩ := ov_spec h0 i
      refine ⟨a, fun j h1 h2 => ?_⟩
      rcases Nat.lt_or_ge i j with q | q
      · have e : j = i + 1 := by omega
        rw [e]; exact c
      · exact b j h1 q
    · rename_i c
      exact ⟨by omega, fun j h1 h2 => by omega⟩
theorem ov_uniq {f : Nat → Nat} {l : Nat} : ∀ {i k : Nat}, k ≤ i → f k ≤ l → (∀ j, k < j → j ≤ i → l < f j) → ov f l i = k
  | 0, k, h1, h2, h3 => by rw [ov]; omega
  | i + 1, k, h1, h2, h3 => by
    rw [ov]
    by_cases e : k = i + 1
    · subst e
      rw [if_neg (by omega)]
    · rw [if_pos (h3 (i + 1) (by omega) (Nat.le_refl _))]
      exact ov_uniq (by omega) h2 (fun j a b => h3 j a (by omega))
theorem ov_self {f : Nat → Nat} {l i : Nat} (h : f i ≤ l) : ov f l i = i := ov_uniq (Nat.le_refl _) h (fun j a b => by omega)
theorem ov_ov {f : Nat → Nat} {l l2 i : Nat} (h0 : f 0 ≤ l) (hl : l ≤ l2) : ov f l (ov f l2 i) = ov f l i := by
  obtain ⟨a1, a2⟩ := ov_spec (f := f) (l := l2) (by omega) i
  obtain ⟨b1, b2⟩ := ov_spec (f := f) (l := l) h0 (ov f l2 i)
  refine (ov_uniq ?_ b1 (fun j h1 h2 => ?_)).symm
  · exact Nat.le_trans (ov_le _) (ov_le _)
  · rcases Nat.lt_or_ge (ov f l2 i) j with q | q
    · have := a2 j q h2
      omega
    · exact b2 j h1 q
theorem ov_lev {f : Nat → Nat} {l i : Nat} (h0 : f 0 ≤ l) (hs : ∀ j, j < i → f (j + 1) ≤ f j + 1) (hi : l ≤ f i) : f (ov f l i) = l := by
  obtain ⟨a1, a2⟩ := ov_spec h0 i
  have hle := ov_le (f := f) (l := l) i
  rcases Nat.lt_or_ge (ov f l i) i with q | q
  · have h1 := a2 (ov f l i + 1) (by omega) (by omega)
    have h2 := hs (ov f l i) q
    omega
  · have e : ov f l i = i := by omega
    rw [e] at a1 ⊢
    omega
theorem bh_spec {f : Nat → Nat} {sz l : Nat} : ∀ (n k : Nat), sz ≤ k + n → (∀ j, k ≤ j → j < bh f sz l n k → l < f j) ∧ (bh f sz l n k < sz → f (bh f sz l n k) ≤ l)
  | 0, k, h => ⟨fun j h1 h2 => by rw [bh] at h2; omega, fun h1 => by rw [bh] at h1; omega⟩
  | n + 1, k, h => by
    rw [bh]
    split
    · rename_i c
      obtain ⟨a, b⟩ := bh_spec (f := f) (sz := sz) (l := l) n (k + 1) (by omega)
      refine ⟨fun j h1 h2 => ?_, b⟩
      by_cases e : j = k
      · subst e; exact c.2
      · exact a j (by omega) h2
    · rename_i c
      exact ⟨fun j h1 h2 => by omega, fun h1 => by
        rcases Nat.lt_or_ge l (f k) with q | q
        · exact absurd ⟨h1, q⟩ c
        · exact q⟩
theorem bhd_in (S : PS) {t j : Nat} (h1 : t < j) (h2 : j < bhd S t) : slo S t < slo S j := (bh_spec (f := slo S) (sz := ssz S) (l := slo S t) (ssz S) (t + 1) (by omega)).1 j h1 h2
theorem bhd_at (S : PS) {t : Nat} (h : bhd S t < ssz S) : slo S (bhd S t) ≤ slo S t := (bh_spec (f := slo S) (sz := ssz S) (l := slo S t) (ssz S) (t + 1) (by omega)).2 h
theorem bhd_le (S : PS) {t i : Nat} (h : ∀ j, t < j → j ≤ i → slo S t < slo S j) (ht : t ≤ i) (hi : i < ssz S) : i < bhd S t := by
  rcases Nat.lt_or_ge i (bhd S t) with q | q
  · exact q
  · have h1 := bhd_lt S t
    have h2 := bhd_at S (t := t) (by omega)
    have h3 := h (bhd S t) h1 q
    omega
theorem Tr.par_lev {S : PS} (hT : Tr S) {i : Nat} (hi : i < ssz S) (h2 : 2 ≤ slo S i) : slo S (par S i) = slo S i - 1 ∧ par S i < i := by
  have h0 := hT.1 (by omega)
  have e : slo S (par S i) = slo S i - 1 := ov_lev (by omega) (fun j hj => hT.2.1 j (by omega)) (by omega)
  refine ⟨e, ?_⟩
  have h3 : par S i ≤ i := ov_le i
  rcases Nat.lt_or_ge (par S i) i with q | q
  · exact q
  · have : par S i = i := by omega
    rw [this] at e
    omega
theorem par_btw {S : PS} (hT : Tr S) {i j : Nat} (hi : i < ssz S) (h2 : 2 ≤ slo S i) (h3 : par S i < j) (h4 : j ≤ i) : slo S i ≤ slo S j := by
  have h0 := hT.1 (by omega)
  have := (ov_spec (f := slo S) (l := slo S i - 1) (by omega) i).2 j h3 h4
  omega
/-- one step up -/
theorem okd_par {S : PS} (hT : Tr S) {i kd : Nat} (hi : i < ssz S) (hk : 1 ≤ slv S kd) (hne : ¬ sso S i = kd) : okd S (some i) kd = if 2 ≤ slo S i then okd S (some (par S i)) kd else none := by
  have h0 := hT.1 (by omega)
  have h1 := hT.2.2 i hi
  by_cases c2 : 2 ≤ slo S i
  · rw [if_pos c2]
    obtain ⟨p1, p2⟩ := hT.par_lev hi c2
    unfold okd ovr
    dsimp only
    by_cases c3 : slo S i < slv S kd
    · rw [if_pos c3, if_pos (by omega)]
    · rw [if_neg c3]
      by_cases c4 : slo S i = slv S kd
      · rw [if_pos (show slo S (par S i) < slv S kd by omega), ov_self (by omega)]
        dsimp only
        rw [if_neg hne]
      · rw [if_neg (show ¬ slo S (par S i) < slv S kd by omega)]
        dsimp only
        unfold par
        rw [ov_ov (by omega) (by omega)]
  · rw [if_neg c2]
    unfold okd ovr
    dsimp only
    by_cases c3 : slo S i < slv S kd
    · rw [if_pos c3]
    · rw [if_neg c3, ov_self (by omega)]
      dsimp only
      rw [if_neg hne]
theorem okd_self {S : PS} {i : Nat} : okd S (some i) (sso S i) = some i := by
  unfold okd ovr
  dsimp only
  rw [if_neg (show ¬ slo S i < slv S (sso S i) from Nat.lt_irrefl _), ov_self (show slo S i ≤ slv S (sso S i) from Nat.le_refl _)]
  dsimp only
  rw [if_pos rfl]
theorem inR_self {S : PS} {t : Nat} : inR S t (some t) = true := decide_eq_true ⟨Nat.le_refl _, bhd_lt S t⟩
theorem inR_par {S : PS} (hT : Tr S) {t i : Nat} (ht : t < ssz S) (hi : i < ssz S) (hne : ¬ i = t) : inR S t (some i) = if 2 ≤ slo S i then inR S t (some (par S i)) else false := by
  have h1 := hT.2.2 i hi
  have h1t := hT.2.2 t ht
  by_cases c2 : 2 ≤ slo S i
  · rw [if_pos c2]
    obtain ⟨p1, p2⟩ := hT.par_lev hi c2
    unfold inR
    refine decide_eq_decide.mpr ⟨fun h => ?_, fun h => ?_⟩
    · have hlt : t < i := by omega
      have hl := bhd_in S hlt h.2
      refine ⟨?_, by omega⟩
      rcases Nat.lt_or_ge (par S i) t with q | q
      · have := par_btw hT hi c2 q (by omega)
        omega
      · exact q
    · refine ⟨by omega, ?_⟩
      refine bhd_le S (fun j h3 h4 => ?_) (by omega) hi
      rcases Nat.lt_or_ge (par S i) j with q | q
      · have h5 := par_btw hT hi c2 q h4
        by_cases e : par S i = t
        · rw [e] at p1; omega
        · have := bhd_in S (t := t) (j := par S i) (by omega) h.2
          omega
      · exact bhd_in S h3 (by omega)
  · rw [if_neg c2]
    refine decide_eq_false (fun h => ?_)
    have := bhd_in S (t := t) (j := i) (by omega) h.2
    omega
/-- the reference's test of 'lies in', by levels -/
theorem wth_inR {S : PS} (hT : Tr S) {i k : Nat} (hi : i < ssz S) (hk : k < ssz S) : wth S (some i) (some k) = inR S k (some i) := by
  have h0 := hT.1 (by omega)
  have h1k := hT.2.2 k hk
  unfold wth inR ovr
  dsimp only
  refine decide_eq_decide.mpr ⟨fun h => ?_, fun h => ?_⟩
  · split at h
    · cases h
    · rename_i c
      have e : ov (slo S) (slo S k) i = k := Option.some.inj h
      obtain ⟨a1, a2⟩ := ov_spec (f := slo S) (l := slo S k) (by omega) i
      have hle := ov_le (f := slo S) (l := slo S k) i
      rw [e] at a1 a2 hle
      exact ⟨hle, bhd_le S a2 hle hi⟩
  · have hge : slo S k ≤ slo S i := by
      by_cases e : i = k
      · rw [e]; exact Nat.le_refl _
      · have := bhd_in S (t := k) (j := i) (by omega) h.2
        omega
    rw [if_neg (by omega)]
    congr 1
    exact ov_uniq h.1 (Nat.le_refl _) (fun j a b => bhd_in S a (by omega))
