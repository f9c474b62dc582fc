-- well formed after insert
section W3
variable {S : PS} {c : Nat}
theorem Lv_ins {a kd nm : Nat} {key val : Int64} (ha : a ≤ ssz S) (h : Lv S nm) : Lv (insR S a kd key val) nm := by
  rcases h with h | ⟨i, h1, h2⟩
  · exact Or.inl h
  · obtain ⟨i', e1, e2, e3, e4⟩ := tu_of (a := a) (p := i)
    have hi : i' ≤ ssz S := by
      rcases Nat.lt_or_ge i a with z | z
      · have := e3 z; omega
      · have := e4 z; omega
    refine Or.inr ⟨i', ?_, ?_⟩
    · show i' < ssz S + 1; omega
    · show shf (snm S) a (ssz S) (snd S + 1) i' = nm
      rw [shf_tu hi e2, e1, h2]
theorem Wf_insd (h : Wf S c) {v a kd : Nat} {key val : Int64} {q : Option Nat} (hv1 : 1 ≤ v) (hv2 : v ≤ svc S) (hq : ∀ p, q = some p → p < ssz S) (hk1 : 1 ≤ kd) (hk2 : kd ≤ skc S) (hlq : slv S kd = lvq S q) (p1 : nx q ≤ a) (p2 : a ≤ endS S q) (p3 : a < ssz S → slo S a ≤ slv S kd) (p4 : ∀ z, nx q ≤ z → z < a → slo S z = lvq S q → sso S z ≤ kd) (p5 : ∀ z, a ≤ z → z < endS S q → slo S z = lvq S q → kd ≤ sso S z) {n : Nat} (hn : 1 ≤ n) (hc2 : 2 * ssz S + n + (if skc S = 0 then 0 else 1) + (if svc S = 0 then 0 else 1) ≤ c) (hp0 : spc S = 0) : Wf (insdS S v a kd key val) (c + 1) := by
  obtain ⟨hk, hqw, ⟨l1, l2, l3⟩, ht, hc⟩ := h
  obtain ⟨n1, tr, so, r4⟩ := hqw
  have hu := (end_ub hq).1
  have ha : a ≤ ssz S := by omega
  refine ⟨hk, ⟨ins_Nm n1 ha (fun i hi => (r4 i hi).2.2), ins_Tr tr hq p1 p2 p3 hlq, ins_So tr n1 so hq p1 p2 p3 hlq p4 p5, fun i hi => ?_⟩, ⟨l1, fun w a1 d => ?_, fun w a1 => ?_⟩, ht, ?_, fun _ => ?_, ?_⟩
  · have hi2 : i < ssz S + 1 := hi
    show 1 ≤ shf (sso S) a (ssz S) kd i ∧ shf (sso S) a (ssz S) kd i ≤ skc S ∧ shf (snm S) a (ssz S) (snd S + 1) i ≤ snd S + 1
    by_cases e : i = a
    · rw [e, shf_a, shf_a]; omega
    · rw [shf_tu (by omega) e, shf_tu (by omega) e]
      have := r4 _ (tu_lt (show i ≤ ssz S by omega) ha e)
      omega
  · obtain ⟨q1, q2, q3⟩ := l2 w a1 d
    refine ⟨?_, Lv_ins ha q2, fun z => ?_⟩
    · show Lv (insR S a kd key val) (if w = v then snd S + 1 else spo S w)
      by_cases e : w = v
      · rw [if_pos e]
        refine Or.inr ⟨a, ?_, ?_⟩
        · show a < ssz S + 1; omega
        · show shf (snm S) a (ssz S) (snd S + 1) a = snd S + 1
          rw [shf_a]
      · rw [if_neg e]; exact Lv_ins ha q1
    · show (if w = v then snd S + 1 else spo S w) ≠ 0
      by_cases e : w = v
      · rw [if_pos e]; omega
      · rw [if_neg e]; exact q3 z
  · have a2 : w = 0 ∨ svc S < w := a1
    obtain ⟨q1, q2, q3⟩ := l3 w a1
    refine ⟨?_, q2, q3⟩
    show (if w = v then snd S + 1 else spo S w) = 0
    rw [if_neg (by omega)]; exact q1
  · show snd S + 1 ≤ c + 1
    have := hc.1; omega
  · show 1 ≤ svc S; omega
  · show 2 * (ssz S + 1) + spc S + (if skc S = 0 then 0 else 1) + (if svc S = 0 then 0 else 1) ≤ c + 1
    omega
theorem badI_no {S : PS} (h1 : badI S = false) : 1 ≤ spc S ∧ (1 < spc S → sab S (spk S (spc S - 1)) = spk S (spc S - 2)) := by
  unfold badI at h1
  rw [Bool.or_eq_false_iff, Bool.or_eq_false_iff] at h1
  refine ⟨?_, fun z => ?_⟩
  · rcases Nat.eq_zero_or_pos (spc S) with z | z
    · rw [z] at h1; cases h1.1.1
    · exact z
  · have h3 := h1.2
    rw [decide_eq_true z, Bool.true_and] at h3
    have h4 : (sab S (spk S (spc S - 1)) == spk S (spc S - 2)) = true := by
      cases e : (sab S (spk S (spc S - 1)) == spk S (spc S - 2)) with
      | true => rfl
      | false => rw [e] at h3; cases h3
    exact of_decide_eq_true h4
theorem Wf_ins (h : Wf S c) (view : Int32) (key val : Int64) : Wf (insS S view key val).2 (c + 1) := by
  unfold insS
  cases ek : ki (svc S) view with
  | none => exact h.up
  | some v =>
    have h2 := Wf_hd0 (Wf_pc0 h) v
    obtain ⟨e1, e2, e3⟩ := ki_some (by have := h.2.2.1.1; omega) ek
    dsimp only
    by_cases hb : badI S = true
    · rw [if_pos hb]; exact h2.up
    · rw [if_neg hb]
      have hbf : badI S = false := by
        cases e : badI S with
        | true => exact absurd e hb
        | false => rfl
      obtain ⟨n1, n2⟩ := badI_no hbf
      have hpv := h.pv
      obtain ⟨k1, k2, -, -⟩ := hpv.2 (spc S - 1) (by omega)
      have hcc := h.2.2.2.2.2.2
      have k12 : 1 ≤ spk (uhd (upc S 0) v false) (spc S - 1) := k1
      have k22 : spk (uhd (upc S 0) v false) (spc S - 1) ≤ skc (uhd (upc S 0) v false) := k2
      have n22 : 1 < spc S → sab (uhd (upc S 0) v false) (spk (uhd (upc S 0) v false) (spc S - 1)) = spk (uhd (upc S 0) v false) (spc S - 2) := n2
      have hcc2 : 2 * ssz (uhd (upc S 0) v false) + spc S + (if skc (uhd (upc S 0) v false) = 0 then 0 else 1) + (if svc (uhd (upc S 0) v false) = 0 then 0 else 1) ≤ c := hcc
      have e32 : v ≤ svc (uhd (upc S 0) v false) := e3
      have hp0 : spc (uhd (upc S 0) v false) = 0 := rfl
      generalize uhd (upc S 0) v false = S2 at *
      generalize spc S = n at *
      unfold insnS
      generalize spk S2 (n - 1) = kd at *
      have hpos : ∀ i, plc S2 (spo S2 v) = some i → i < ssz S2 := fun i hi => (plc_lt hi).1
      generalize plc S2 (spo S2 v) = pos at *
      have hpk := fun (p : Nat) (hp : parS S2 n kd pos = some p) => parS_ok hpos n22 hp
      generalize parS S2 n kd pos = q at *
      have hq : ∀ p, q = some p → p < ssz S2 := fun p hp => (hpk p hp).1
      by_cases c1 : sab S2 kd ≠ 0 ∧ q = none
      · rw [if_pos c1]; exact h2.up
      · rw [if_neg c1]
        by_cases c2 : scT S2 kd key (endS S2 q) (ssz S2) (at0 S2 kd q) = true ∧ sun S2 kd = true
        · rw [if_pos c2]; exact h2.up
        · rw [if_neg c2]
          have hlq : slv S2 kd = lvq S2 q := by
            have h5 := (h2.1.2.1 kd k12 k22).2.2.2.2
            cases hq2 : q with
            | none =>
              have : sab S2 kd = 0 := by
                rcases Nat.eq_zero_or_pos (sab S2 kd) with z | z
                · exact z
                · exact absurd ⟨by omega, hq2⟩ c1
              rw [h5, if_pos this]; rfl
            | some p =>
              obtain ⟨z1, z2, z3⟩ := hpk p hq2
              rw [h5, if_neg z3, ← z2]; rfl
          obtain ⟨t1, t2, t3, t4, t5⟩ := at1_ok (kd := kd) (key := key) (pos := pos) h2.2.1.2.1 h2.2.1.1 hq h2.2.1.2.2.1
          exact Wf_insd h2 e2 e32 hq k12 k22 hlq t1 t2 (fun z => by rw [hlq]; exact t3 z) t4 t5 n1 hcc2 hp0
end W3
