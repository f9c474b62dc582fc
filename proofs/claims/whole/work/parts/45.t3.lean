-- rows taken out: a tree
def sg (f n i : Nat) : Nat := if i < f then i else i + n
theorem dsh_sg {α : Type} {g : Nat → α} {f n sz i : Nat} (h : i + n < sz) : dsh g f n sz i = g (sg f n i) := by
  unfold dsh sg
  by_cases c : i < f
  · rw [if_neg (by omega), if_pos c]
  · rw [if_pos ⟨by omega, h⟩, if_neg c]
def delR (S : PS) (f : Nat) : PS := mkR S (ssz S - (bhd S f - f)) (snd S) (dsh (snm S) f (bhd S f - f) (ssz S)) (dsh (sso S) f (bhd S f - f) (ssz S)) (dsh (sky S) f (bhd S f - f) (ssz S)) (dsh (svl S) f (bhd S f - f) (ssz S))
theorem del_slo {S : PS} {f i : Nat} (hi : i + (bhd S f - f) < ssz S) : slo (delR S f) i = slo S (sg f (bhd S f - f) i) := by
  show slv S (dsh (sso S) f (bhd S f - f) (ssz S) i) = slv S (sso S (sg f (bhd S f - f) i))
  rw [dsh_sg hi]
theorem sg_lt {f n i sz : Nat} (h : i + n < sz) : sg f n i < sz := by
  unfold sg
  split
  · omega
  · exact h
theorem sg_mono {f n i j : Nat} (h : i < j) : sg f n i < sg f n j := by
  unfold sg
  split <;> split <;> omega
theorem sg_inj {f n i j : Nat} (h : sg f n i = sg f n j) : i = j := by
  unfold sg at h
  split at h <;> split at h <;> omega
theorem sg_of {f n p : Nat} (h : p < f ∨ f + n ≤ p) : ∃ i, sg f n i = p ∧ i ≤ p := by
  by_cases c : p < f
  · exact ⟨p, if_pos c, Nat.le_refl _⟩
  · refine ⟨p - n, ?_, by omega⟩
    unfold sg
    rw [if_neg (by omega)]
    omega
theorem del_par {S : PS} (hT : Tr S) {f i : Nat} (hf : f < ssz S) (hi : i + (bhd S f - f) < ssz S) (h2 : 2 ≤ slo S (sg f (bhd S f - f) i)) : sg f (bhd S f - f) (par (delR S f) i) = par S (sg f (bhd S f - f) i) := by
  have b1 := bhd_lt S f
  have b2 := bhd_ub S hf
  have hs := sg_lt (f := f) hi
  obtain ⟨p1, p2⟩ := hT.par_lev hs h2
  have hout : par S (sg f (bhd S f - f) i) < f ∨ f + (bhd S f - f) ≤ par S (sg f (bhd S f - f) i) := by
    rcases Nat.lt_or_ge (par S (sg f (bhd S f - f) i)) f with q | q
    · exact Or.inl q
    · rcases Nat.lt_or_ge (par S (sg f (bhd S f - f) i)) (bhd S f) with q2 | q2
      · exfalso
        have hif : f ≤ i := by
          rcases Nat.lt_or_ge i f with z | z
          · have e : sg f (bhd S f - f) i = i := if_pos z
            rw [e] at p2 q
            omega
          · exact z
        have e : sg f (bhd S f - f) i = i + (bhd S f - f) := if_neg (by omega)
        have h3 := par_btw hT hs h2 (j := bhd S f) q2 (by omega)
        have h4 := bhd_at S (t := f) (by omega)
        have h5 : slo S f ≤ slo S (par S (sg f (bhd S f - f) i)) := by
          by_cases z : par S (sg f (bhd S f - f) i) = f
          · rw [z]; exact Nat.le_refl _
          · exact Nat.le_of_lt (bhd_in S (by omega) q2)
        omega
      · exact Or.inr (by omega)
  obtain ⟨p', e1, e2⟩ := sg_of hout
  have hlt : p' < i := by
    rcases Nat.lt_or_ge p' i with q | q
    · exact q
    · by_cases z : p' = i
      · rw [z] at e1; omega
      · have := sg_mono (f := f) (n := bhd S f - f) (show i < p' by omega)
        omega
  have hpar : par (delR S f) i = p' := by
    unfold par
    rw [del_slo hi]
    refine ov_uniq (by omega) ?_ (fun j h3 h4 => ?_)
    · rw [del_slo (by omega), e1]
      omega
    · rw [del_slo (by omega)]
      have h5 := sg_mono (f := f) (n := bhd S f - f) h3
      have h6 : sg f (bhd S f - f) j ≤ sg f (bhd S f - f) i := by
        by_cases z : j = i
        · rw [z]; exact Nat.le_refl _
        · exact Nat.le_of_lt (sg_mono (by omega))
      have h7 := par_btw hT hs h2 (j := sg f (bhd S f - f) j) (by omega) h6
      omega
  rw [hpar, e1]
theorem del_pnm {S : PS} (hT : Tr S) {f i : Nat} (hf : f < ssz S) (hi : i + (bhd S f - f) < ssz S) : pnm (delR S f) i = pnm S (sg f (bhd S f - f) i) := by
  unfold pnm
  rw [del_slo hi]
  by_cases c : 2 ≤ slo S (sg f (bhd S f - f) i)
  · rw [if_pos c, if_pos c, ← del_par hT hf hi c]
    show dsh (snm S) f (bhd S f - f) (ssz S) (par (delR S f) i) = _
    rw [dsh_sg]
    have : par (delR S f) i ≤ i := ov_le i
    omega
  · rw [if_neg c, if_neg c]
