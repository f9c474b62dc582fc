-- a row put in
def tu (a i : Nat) : Nat := if i < a then i else i - 1
def insR (S : PS) (a kd : Nat) (key val : Int64) : PS := mkR S (ssz S + 1) (snd S + 1) (shf (snm S) a (ssz S) (snd S + 1)) (shf (sso S) a (ssz S) kd) (shf (sky S) a (ssz S) key) (shf (svl S) a (ssz S) val)
theorem shf_a {α : Type} {f : Nat → α} {a sz : Nat} {y : α} : shf f a sz y a = y := if_pos rfl
theorem shf_tu {α : Type} {f : Nat → α} {a sz i : Nat} {y : α} (h : i ≤ sz) (hn : i ≠ a) : shf f a sz y i = f (tu a i) := by
  unfold shf tu
  rw [if_neg hn]
  by_cases c : i < a
  · rw [if_neg (by omega), if_pos c]
  · rw [if_pos ⟨by omega, h⟩, if_neg c]
theorem tu_lt {a i sz : Nat} (h : i ≤ sz) (ha : a ≤ sz) (hn : i ≠ a) : tu a i < sz := by
  unfold tu
  split <;> omega
theorem tu_mono {a i j : Nat} (h : i < j) (hi : i ≠ a) (hj : j ≠ a) : tu a i < tu a j := by
  unfold tu
  split <;> split <;> omega
theorem tu_inj {a i j : Nat} (hi : i ≠ a) (hj : j ≠ a) (h : tu a i = tu a j) : i = j := by
  unfold tu at h
  split at h <;> split at h <;> omega
theorem tu_of {a p : Nat} : ∃ i, tu a i = p ∧ i ≠ a ∧ (p < a → i = p) ∧ (a ≤ p → i = p + 1) := by
  by_cases c : p < a
  · exact ⟨p, if_pos c, by omega, fun _ => rfl, fun h => by omega⟩
  · refine ⟨p + 1, ?_, by omega, fun h => by omega, fun _ => rfl⟩
    unfold tu
    rw [if_neg (by omega)]
    omega
section T5
variable {S : PS} {a kd : Nat} {key val : Int64}
theorem ins_slo {i : Nat} (h : i ≤ ssz S) (hn : i ≠ a) : slo (insR S a kd key val) i = slo S (tu a i) := by
  show slv S (shf (sso S) a (ssz S) kd i) = slv S (sso S (tu a i))
  rw [shf_tu h hn]
theorem ins_sloa : slo (insR S a kd key val) a = slv S kd := by
  show slv S (shf (sso S) a (ssz S) kd a) = slv S kd
  rw [shf_a]
theorem ins_par (hT : Tr S) (ha : a ≤ ssz S) (hl : a < ssz S → slo S a ≤ slv S kd) {i : Nat} (hi : i ≤ ssz S) (hn : i ≠ a) (h2 : 2 ≤ slo S (tu a i)) : par (insR S a kd key val) i ≠ a ∧ tu a (par (insR S a kd key val) i) = par S (tu a i) := by
  have hs := tu_lt hi ha hn
  obtain ⟨p1, p2⟩ := hT.par_lev hs h2
  obtain ⟨p', e1, e2, e3, e4⟩ := tu_of (a := a) (p := par S (tu a i))
  have hlt : p' < i := by
    rcases Nat.lt_or_ge p' i with q | q
    · exact q
    · by_cases z : p' = i
      · rw [z] at e1; omega
      · have := tu_mono (show i < p' by omega) hn e2
        omega
  have hpar : par (insR S a kd key val) i = p' := by
    unfold par
    rw [ins_slo hi hn]
    refine ov_uniq (by omega) ?_ (fun j h3 h4 => ?_)
    · rw [ins_slo (by omega) e2, e1]
      omega
    · by_cases z : j = a
      · rw [z, ins_sloa]
        have h5 : p' < a ∧ a < i := by omega
        have h6 : par S (tu a i) < a := by
          rcases Nat.lt_or_ge (par S (tu a i)) a with y | y
          · exact y
          · have := e4 y; omega
        have h7 : tu a i = i - 1 := if_neg (by omega)
        have h8 := par_btw hT hs h2 h6 (by omega)
        have h9 := hl (by omega)
        omega
      · rw [ins_slo (by omega) z]
        have h5 := tu_mono h3 e2 z
        have h6 : tu a j ≤ tu a i := by
          by_cases y : j = i
          · rw [y]; exact Nat.le_refl _
          · exact Nat.le_of_lt (tu_mono (by omega) z hn)
        have h7 := par_btw hT hs h2 (j := tu a j) (by omega) h6
        omega
  rw [hpar]
  exact ⟨e2, e1⟩
theorem ins_pnm (hT : Tr S) (ha : a ≤ ssz S) (hl : a < ssz S → slo S a ≤ slv S kd) {i : Nat} (hi : i ≤ ssz S) (hn : i ≠ a) : pnm (insR S a kd key val) i = pnm S (tu a i) := by
  unfold pnm
  rw [ins_slo hi hn]
  by_cases c : 2 ≤ slo S (tu a i)
  · obtain ⟨h1, h2⟩ := ins_par (key := key) (val := val) hT ha hl hi hn c
    rw [if_pos c, if_pos c, ← h2]
    show shf (snm S) a (ssz S) (snd S + 1) (par (insR S a kd key val) i) = _
    rw [shf_tu _ h1]
    have : par (insR S a kd key val) i ≤ i := ov_le i
    omega
  · rw [if_neg c, if_neg c]
theorem ins_pnma (hT : Tr S) {q : Option Nat} (hq : ∀ p, q = some p → p < ssz S) (h1 : nx q ≤ a) (h2 : a ≤ endS S q) (hk : slv S kd = lvq S q) : pnm (insR S a kd key val) a = pl0 S q := by
  unfold pnm
  rw [ins_sloa, hk]
  cases q with
  | none =>
    rw [if_neg (show ¬ 2 ≤ lvq S none from by show ¬ 2 ≤ 1; omega)]
    rfl
  | some p =>
    have h3 := hT.2.2 p (hq p rfl)
    have h4 : p + 1 ≤ a := h1
    have h5 : a ≤ bhd S p := h2
    have h6 := bhd_ub S (hq p rfl)
    rw [if_pos (show 2 ≤ lvq S (some p) from by show 2 ≤ slo S p + 1; omega)]
    have e : par (insR S a kd key val) a = p := by
      unfold par
      rw [ins_sloa, hk]
      show ov _ (slo S p + 1 - 1) a = p
      refine ov_uniq (by omega) ?_ (fun j h7 h8 => ?_)
      · rw [ins_slo (by omega) (by omega), show tu a p = p from if_pos (by omega)]
        omega
      · by_cases z : j = a
        · rw [z, ins_sloa, hk]
          show slo S p + 1 - 1 < slo S p + 1
          omega
        · rw [ins_slo (by omega) z, show tu a j = j from if_pos (by omega)]
          have := bhd_in S (t := p) (j := j) h7 (by omega)
          omega
    rw [e]
    show shf (snm S) a (ssz S) (snd S + 1) p = snm S p
    rw [shf_tu (by omega) (by omega), show tu a p = p from if_pos (by omega)]
theorem ins_Tr (hT : Tr S) {q : Option Nat} (hq : ∀ p, q = some p → p < ssz S) (h1 : nx q ≤ a) (h2 : a ≤ endS S q) (hl : a < ssz S → slo S a ≤ slv S kd) (hk : slv S kd = lvq S q) : Tr (insR S a kd key val) := by
  have hu := (end_ub hq).1
  have hz : ssz (insR S a kd key val) = ssz S + 1 := rfl
  have hl1 : 1 ≤ lvq S q := by
    cases q with
    | none => exact Nat.le_refl 1
    | some p => exact Nat.succ_le_succ (Nat.zero_le _)
  refine ⟨fun _ => ?_, fun i hi => ?_, fun i hi => ?_⟩
  · by_cases z : a = 0
    · subst z
      rw [ins_sloa, hk]
      cases q with
      | none => rfl
      | some p => exact absurd h1 (Nat.not_succ_le_zero _)
    · rw [ins_slo (by omega) (by omega), show tu a 0 = 0 from if_pos (by omega)]
      exact hT.1 (by omega)
  · rw [hz] at hi
    by_cases z : i + 1 = a
    · rw [z, ins_sloa, ins_slo (by omega) (by omega), show tu a i = i from if_pos (by omega), hk]
      cases q with
      | none => exact Nat.succ_le_succ (Nat.zero_le _)
      | some p =>
        have h3 : p + 1 ≤ a := h1
        have h5 : a ≤ bhd S p := h2
        show slo S p + 1 ≤ slo S i + 1
        by_cases y : i = p
        · rw [y]; exact Nat.le_refl _
        · have := bhd_in S (t := p) (j := i) (by omega) (by omega)
          omega
    · by_cases y : i = a
      · rw [y, ins_sloa, ins_slo (by omega) (by omega), show tu a (a + 1) = a from by unfold tu; rw [if_neg (by omega)]; omega]
        have := hl (by omega)
        omega
      · rw [ins_slo (by omega) z, ins_slo (by omega) y]
        have h3 := hT.2.1 (tu a i)
        have h4 : tu a (i + 1) = tu a i + 1 := by
          unfold tu
          split <;> split <;> omega
        rw [h4]
        exact h3 (by rw [← h4]; exact tu_lt (by omega) (by omega) z)
  · rw [hz] at hi
    by_cases y : i = a
    · rw [y, ins_sloa, hk]; exact hl1
    · rw [ins_slo (by omega) y]
      exact hT.2.2 _ (tu_lt (by omega) (by omega) y)
theorem ins_Nm (hN : Nm S) (ha : a ≤ ssz S) (hd : ∀ i, i < ssz S → snm S i ≤ snd S) : Nm (insR S a kd key val) := by
  have hz : ssz (insR S a kd key val) = ssz S + 1 := rfl
  refine ⟨fun i hi => ?_, fun i j hi hj he => ?_⟩
  · show 1 ≤ shf (snm S) a (ssz S) (snd S + 1) i
    rw [hz] at hi
    by_cases y : i = a
    · rw [y, shf_a]; omega
    · rw [shf_tu (by omega) y]
      exact hN.1 _ (tu_lt (by omega) ha y)
  · rw [hz] at hi hj
    have he2 : shf (snm S) a (ssz S) (snd S + 1) i = shf (snm S) a (ssz S) (snd S + 1) j := he
    by_cases y : i = a
    · by_cases z : j = a
      · rw [y, z]
      · rw [y, shf_a, shf_tu (by omega) z] at he2
        have := hd _ (tu_lt (show j ≤ ssz S by omega) ha z)
        omega
    · by_cases z : j = a
      · rw [z, shf_a, shf_tu (by omega) y] at he2
        have := hd _ (tu_lt (show i ≤ ssz S by omega) ha y)
        omega
      · rw [shf_tu (by omega) y, shf_tu (by omega) z] at he2
        exact tu_inj y z (hN.2 _ _ (tu_lt (by omega) ha y) (tu_lt (by omega) ha z) he2)
theorem ins_So (hT : Tr S) (hN : Nm S) (hSo : So S) {q : Option Nat} (hq : ∀ p, q = some p → p < ssz S) (h1 : nx q ≤ a) (h2 : a ≤ endS S q) (hl : a < ssz S → slo S a ≤ slv S kd) (hk : slv S kd = lvq S q) (h3 : ∀ z, nx q ≤ z → z < a → slo S z = lvq S q → sso S z ≤ kd) (h4 : ∀ z, a ≤ z → z < endS S q → slo S z = lvq S q → kd ≤ sso S z) : So (insR S a kd key val) := by
  have hu := (end_ub hq).1
  intro i j hij hj hs hp
  have hz : ssz (insR S a kd key val) = ssz S + 1 := rfl
  rw [hz] at hj
  show shf (sso S) a (ssz S) kd i ≤ shf (sso S) a (ssz S) kd j
  by_cases y : i = a
  · have z : j ≠ a := by omega
    rw [y, shf_a, shf_tu (by omega) z]
    rw [y, ins_pnma hT hq h1 h2 hk, ins_pnm hT (by omega) hl (by omega) z] at hp
    have hjl := tu_lt (show j ≤ ssz S by omega) (show a ≤ ssz S by omega) z
    obtain ⟨c1, c2, c3⟩ := ch_of hT hN hq hjl hp.symm
    refine h4 _ ?_ c2 c3
    unfold tu
    rw [if_neg (by omega)]
    omega
  · by_cases z : j = a
    · rw [z, shf_a, shf_tu (by omega) y]
      rw [z, ins_pnma hT hq h1 h2 hk, ins_pnm hT (by omega) hl (by omega) y] at hp
      have hil := tu_lt (show i ≤ ssz S by omega) (show a ≤ ssz S by omega) y
      obtain ⟨c1, c2, c3⟩ := ch_of hT hN hq hil hp
      refine h3 _ c1 ?_ c3
      unfold tu
      rw [if_pos (by omega)]
      omega
    · rw [shf_tu (by omega) y, shf_tu (by omega) z]
      rw [ins_slo (by omega) y, ins_slo (by omega) z] at hs
      rw [ins_pnm hT (by omega) hl (by omega) y, ins_pnm hT (by omega) hl (by omega) z] at hp
      exact hSo _ _ (tu_mono hij y z) (tu_lt (by omega) (by omega) z) hs hp
end T5
-- the same of rows taken out
section T5d
variable {S : PS} {f : Nat}
theorem del_Tr (hT : Tr S) (hf : f < ssz S) : Tr (delR S f) := by
  have b1 := bhd_lt S f
  have b2 := bhd_ub S hf
  have hz : ssz (delR S f) = ssz S - (bhd S f - f) := rfl
  refine ⟨fun h => ?_, fun i hi => ?_, fun i hi => ?_⟩
  · rw [hz] at h
    rw [del_slo (by omega)]
    by_cases c : 0 < f
    · rw [show sg f (bhd S f - f) 0 = 0 from if_pos c]
      exact hT.1 (by omega)
    · have e : f = 0 := by omega
      subst e
      rw [show sg 0 (bhd S 0 - 0) 0 = bhd S 0 from by unfold sg; rw [if_neg (by omega)]; omega]
      have h3 := bhd_at S (t := 0) (by omega)
      have h4 := hT.1 (by omega)
      have h5 := hT.2.2 (bhd S 0) (by omega)
      omega
  · rw [hz] at hi
    rw [del_slo (by omega), del_slo (by omega)]
    by_cases c : i + 1 < f
    · rw [show sg f (bhd S f - f) (i + 1) = i + 1 from if_pos c, show sg f (bhd S f - f) i = i from if_pos (by omega)]
      exact hT.2.1 i (by omega)
    · by_cases c2 : i + 1 = f
      · rw [show sg f (bhd S f - f) i = i from if_pos (by omega), show sg f (bhd S f - f) (i + 1) = bhd S f from by unfold sg; rw [if_neg (by omega)]; omega]
        have h3 := bhd_at S (t := f) (by omega)
        have h4 := hT.2.1 i (by omega)
        rw [c2] at h4
        omega
      · rw [show sg f (bhd S f - f) (i + 1) = i + (bhd S f - f) + 1 from by unfold sg; rw [if_neg (by omega)]; omega, show sg f (bhd S f - f) i = i + (bhd S f - f) from if_neg (by omega)]
        exact hT.2.1 _ (by omega)
  · rw [hz] at hi
    rw [del_slo (by omega)]
    exact hT.2.2 _ (sg_lt (by omega))
theorem del_Nm (hN : Nm S) (hf : f < ssz S) : Nm (delR S f) := by
  have b1 := bhd_lt S f
  have b2 := bhd_ub S hf
  have hz : ssz (delR S f) = ssz S - (bhd S f - f) := rfl
  refine ⟨fun i hi => ?_, fun i j hi hj he => ?_⟩
  · rw [hz] at hi
    show 1 ≤ dsh (snm S) f (bhd S f - f) (ssz S) i
    rw [dsh_sg (by omega)]
    exact hN.1 _ (sg_lt (by omega))
  · rw [hz] at hi hj
    have he2 : dsh (snm S) f (bhd S f - f) (ssz S) i = dsh (snm S) f (bhd S f - f) (ssz S) j := he
    rw [dsh_sg (by omega), dsh_sg (by omega)] at he2
    exact sg_inj (hN.2 _ _ (sg_lt (by omega)) (sg_lt (by omega)) he2)
theorem del_So (hT : Tr S) (hSo : So S) (hf : f < ssz S) : So (delR S f) := by
  have b1 := bhd_lt S f
  have b2 := bhd_ub S hf
  have hz : ssz (delR S f) = ssz S - (bhd S f - f) := rfl
  intro i j hij hj hs hp
  rw [hz] at hj
  show dsh (sso S) f (bhd S f - f) (ssz S) i ≤ dsh (sso S) f (bhd S f - f) (ssz S) j
  rw [dsh_sg (by omega), dsh_sg (by omega)]
  rw [del_slo (by omega), del_slo (by omega)] at hs
  rw [del_pnm hT hf (by omega), del_pnm hT hf (by omega)] at hp
  exact hSo _ _ (sg_mono hij) (sg_lt (by omega)) hs hp
end T5d
