-- the state is well formed, and stays so
def KW (S : PS) : Prop := skc S ≤ 20 ∧ (∀ k, 1 ≤ k → k ≤ skc S → 1 ≤ slv S k ∧ slv S k ≤ 8 ∧ sab S k < k ∧ sru S k ≤ 2 ∧ slv S k = if sab S k = 0 then 1 else slv S (sab S k) + 1) ∧ (∀ k, (k = 0 ∨ skc S < k) → slv S k = 0 ∧ sab S k = 0 ∧ sru S k = 0)
def QW (S : PS) : Prop := Nm S ∧ Tr S ∧ So S ∧ ∀ i, i < ssz S → 1 ≤ sso S i ∧ sso S i ≤ skc S ∧ snm S i ≤ snd S
def LW (S : PS) : Prop := svc S ≤ 9 ∧ (∀ v, 1 ≤ v → v ≤ svc S → Lv S (spo S v) ∧ Lv S (spr S v) ∧ (shd S v = true → spo S v ≠ 0)) ∧ (∀ v, (v = 0 ∨ svc S < v) → spo S v = 0 ∧ spr S v = 0 ∧ shd S v = false)
def TW (S : PS) : Prop := spc S ≤ 8 ∧ (∀ p, p < 8 → spk S p ≤ skc S ∧ sop S p ≤ 6 ∧ scd S p ≤ 15) ∧ ∀ p, p < spc S → 1 ≤ spk S p
def CW (S : PS) (c : Nat) : Prop := snd S ≤ c ∧ (0 < ssz S → 1 ≤ svc S) ∧ 2 * ssz S + spc S + (if skc S = 0 then 0 else 1) + (if svc S = 0 then 0 else 1) ≤ c
def Wf (S : PS) (c : Nat) : Prop := KW S ∧ QW S ∧ LW S ∧ TW S ∧ CW S c
theorem Wf_00 : Wf S00 0 := by
  refine ⟨⟨Nat.zero_le _, fun k h1 h2 => absurd (show k ≤ 0 from h2) (by omega), fun k _ => ⟨rfl, rfl, rfl⟩⟩, ⟨⟨fun i hi => absurd (show i < 0 from hi) (by omega), fun i j hi => absurd (show i < 0 from hi) (by omega)⟩, ⟨fun hi => absurd (show 0 < 0 from hi) (by omega), fun i hi => absurd (show i + 1 < 0 from hi) (by omega), fun i hi => absurd (show i < 0 from hi) (by omega)⟩, fun i j _ hj => absurd (show j < 0 from hj) (by omega), fun i hi => absurd (show i < 0 from hi) (by omega)⟩, ⟨Nat.zero_le _, fun v h1 h2 => absurd (show v ≤ 0 from h2) (by omega), fun v _ => ⟨rfl, rfl, rfl⟩⟩, ⟨Nat.zero_le _, fun p _ => ⟨Nat.zero_le _, Nat.zero_le _, Nat.zero_le _⟩, fun p hp => absurd (show p < 0 from hp) (by omega)⟩, Nat.zero_le _, fun hi => absurd (show 0 < 0 from hi) (by omega), Nat.le_refl _⟩
theorem CW.sz {S : PS} {c : Nat} (hC : CW S c) (hq : QW S) (hc : c ≤ 512) : ssz S ≤ 255 := by
  rcases Nat.eq_zero_or_pos (ssz S) with z | z
  · omega
  · obtain ⟨c1, c2, c3⟩ := hC
    have h1 := c2 z
    have h2 := hq.2.2.2 0 z
    rw [if_neg (by omega), if_neg (by omega)] at c3
    omega
section W1
variable {S : PS} {c : Nat}
theorem Wf.wx (h : Wf S c) (hc : c ≤ 512) : WX S := by
  obtain ⟨⟨k1, k2, k3⟩, hq, ⟨l1, l2, l3⟩, ht, hcw⟩ := h
  refine ⟨k1, hq.1, hq.2.1, fun i hi => ?_, fun k a b => ?_, fun k a b => (k2 k a b).2.2.1, hcw.sz hq hc, fun v a b => ⟨(l2 v a b).1, (l2 v a b).2.1⟩, l1⟩
  · have := hq.2.2.2 i hi
    exact ⟨this.1, this.2.1⟩
  · have := k2 k a b
    exact ⟨this.1, this.2.1⟩
theorem Wf.rw (h : Wf S c) (hc : c ≤ 512) : RW S := by
  obtain ⟨⟨k1, k2, k3⟩, hq, ⟨l1, l2, l3⟩, ht, hcw⟩ := h
  have hz := hcw.sz hq hc
  refine ⟨by omega, fun i hi => ?_, fun k hk => ?_, fun k a b hz => ?_, k1⟩
  · have := hq.2.2.2 i hi; omega
  · by_cases z : 1 ≤ k ∧ k ≤ skc S
    · exact (k2 k z.1 z.2).2.1
    · rw [(k3 k (by omega)).1]; omega
  · rw [hq.2.1.1 hz]; exact (k2 k a b).1
theorem Lv.le (hq : QW S) {nm : Nat} (h : Lv S nm) : nm ≤ snd S := by
  rcases h with h | ⟨i, h1, h2⟩
  · omega
  · rw [← h2]; exact (hq.2.2.2 i h1).2.2
theorem Wf.vw (h : Wf S c) (hc : c ≤ 512) : VW S := by
  obtain ⟨⟨k1, k2, k3⟩, hq, ⟨l1, l2, l3⟩, ht, hcw⟩ := h
  have hn := hcw.1
  refine ⟨l1, fun i hi => ?_, fun j hj => ?_⟩
  · have := (hq.2.2.2 i hi).2.2; omega
  · by_cases z : 1 ≤ j ∧ j ≤ svc S
    · have h1 := (l2 j z.1 z.2).1.le hq
      have h2 := (l2 j z.1 z.2).2.1.le hq
      exact ⟨by omega, by omega⟩
    · obtain ⟨a, b, -⟩ := l3 j (by omega)
      rw [a, b]; exact ⟨by omega, by omega⟩
theorem Wf.pv (h : Wf S c) : PV S (spc S) := by
  obtain ⟨t1, t2, t3⟩ := h.2.2.2.1
  refine ⟨t1, fun p hp => ?_⟩
  obtain ⟨a, b, d⟩ := t2 p (by omega)
  exact ⟨t3 p hp, a, b, d⟩
theorem Wf.hold (h : Wf S c) : ∀ j, 1 ≤ j → j ≤ svc S → shd S j = true → ∃ k, plc S (spo S j) = some k := by
  intro j a b d
  obtain ⟨l1, l2, l3⟩ := h.2.2.1.2.1 j a b
  rcases l1 with z | ⟨i, z1, z2⟩
  · exact absurd z (l3 d)
  · exact ⟨i, by rw [← z2]; exact plc_of h.2.1.1 z1⟩
theorem Wf.sab21 (h : Wf S c) : ∀ k, k < 21 → 0 < k → sab S k < k := by
  intro k _ a
  obtain ⟨k1, k2, k3⟩ := h.1
  by_cases z : k ≤ skc S
  · exact (k2 k a z).2.2.1
  · rw [(k3 k (by omega)).2.1]; exact a
theorem Wf.ru (h : Wf S c) : ∀ k, k ≤ skc S → sru S k ≤ 2 := by
  intro k a
  obtain ⟨k1, k2, k3⟩ := h.1
  by_cases z : 1 ≤ k
  · exact (k2 k z a).2.2.2.1
  · rw [(k3 k (by omega)).2.2]; omega
theorem CW.up {T : PS} (h : CW S c) (h1 : snd T ≤ snd S + 1) (h2 : 0 < ssz T → 1 ≤ svc T) (h3 : 2 * ssz T + spc T + (if skc T = 0 then 0 else 1) + (if svc T = 0 then 0 else 1) ≤ 2 * ssz S + spc S + (if skc S = 0 then 0 else 1) + (if svc S = 0 then 0 else 1) + 1) : CW T (c + 1) := by
  obtain ⟨a, b, d⟩ := h
  exact ⟨by omega, h2, by omega⟩
theorem Wf.up (h : Wf S c) : Wf S (c + 1) := ⟨h.1, h.2.1, h.2.2.1, h.2.2.2.1, h.2.2.2.2.up (Nat.le_succ _) h.2.2.2.2.2.1 (Nat.le_succ _)⟩
theorem Wf_view (h : Wf S c) : Wf (viewS S).2 (c + 1) := by
  unfold viewS
  by_cases e : svc S = 9
  · rw [if_pos e]; exact h.up
  · rw [if_neg e]
    obtain ⟨hk, hq, ⟨l1, l2, l3⟩, ht, hc⟩ := h
    refine ⟨hk, hq, ⟨?_, fun v a b => ?_, fun v a => l3 v ?_⟩, ht, hc.up (Nat.le_succ _) (fun _ => ?_) ?_⟩
    · show svc S + 1 ≤ 9; omega
    · have b2 : v ≤ svc S + 1 := b
      by_cases z : v ≤ svc S
      · exact l2 v a z
      · obtain ⟨q1, q2, q3⟩ := l3 v (by omega)
        refine ⟨Or.inl q1, Or.inl q2, fun q => ?_⟩
        have : shd S v = true := q
        rw [q3] at this; cases this
    · have a2 : v = 0 ∨ svc S + 1 < v := a
      omega
    · show 1 ≤ svc S + 1; omega
    · show 2 * ssz S + spc S + (if skc S = 0 then 0 else 1) + (if svc S + 1 = 0 then 0 else 1) ≤ _
      rw [if_neg (show ¬ svc S + 1 = 0 by omega)]
      omega
theorem slo_addk {j l : Nat} {u : Bool} (hq : QW S) {i : Nat} (hi : i < ssz S) : slo (addk S j l u) i = slo S i := by
  show (if sso S i = skc S + 1 then l else slv S (sso S i)) = slv S (sso S i)
  rw [if_neg (by have := (hq.2.2.2 i hi).2.1; omega)]
theorem Wf_addk (h : Wf S c) {j l : Nat} {u : Bool} (hk : skc S < 20) (hj : (j = 0 ∧ l = 1) ∨ (1 ≤ j ∧ j ≤ skc S ∧ l = slv S j + 1 ∧ slv S j < 8)) : Wf (addk S j l u) (c + 1) := by
  obtain ⟨⟨k1, k2, k3⟩, hq, hl, ⟨t1, t2, t3⟩, hc⟩ := h
  have hq2 := hq
  obtain ⟨n1, tr, so, r4⟩ := hq
  refine ⟨⟨?_, fun k a b => ?_, fun k a => ?_⟩, ⟨n1, ⟨fun hz => ?_, fun i hi => ?_, fun i hi => ?_⟩, fun i jj a b e1 e2 => ?_, fun i hi => ?_⟩, hl, ⟨t1, fun p hp => ?_, t3⟩, hc.up (Nat.le_succ _) hc.2.1 ?_⟩
  · show skc S + 1 ≤ 20; omega
  · have b2 : k ≤ skc S + 1 := b
    show 1 ≤ (if k = skc S + 1 then l else slv S k) ∧ (if k = skc S + 1 then l else slv S k) ≤ 8 ∧ (if k = skc S + 1 then j else sab S k) < k ∧ (if k = skc S + 1 then 1 else sru S k) ≤ 2 ∧ (if k = skc S + 1 then l else slv S k) = if (if k = skc S + 1 then j else sab S k) = 0 then 1 else (if (if k = skc S + 1 then j else sab S k) = skc S + 1 then l else slv S (if k = skc S + 1 then j else sab S k)) + 1
    by_cases z : k = skc S + 1
    · rw [if_pos z, if_pos z, if_pos z]
      rcases hj with ⟨a1, a2⟩ | ⟨a1, a2, a3, a4⟩
      · rw [if_pos a1]; omega
      · rw [if_neg (show ¬ j = 0 by omega), if_neg (show ¬ j = skc S + 1 by omega)]
        omega
    · obtain ⟨q1, q2, q3, q4, q5⟩ := k2 k a (by omega)
      rw [if_neg z, if_neg z, if_neg z, if_neg (show ¬ sab S k = skc S + 1 by omega)]
      exact ⟨q1, q2, q3, q4, q5⟩
  · have a2 : k = 0 ∨ skc S + 1 < k := a
    show (if k = skc S + 1 then l else slv S k) = 0 ∧ (if k = skc S + 1 then j else sab S k) = 0 ∧ (if k = skc S + 1 then 1 else sru S k) = 0
    rw [if_neg (by omega), if_neg (by omega), if_neg (by omega)]
    exact k3 k (by omega)
  · rw [slo_addk hq2 hz]; exact tr.1 hz
  · rw [slo_addk hq2 hi, slo_addk hq2 (Nat.lt_of_succ_lt hi)]; exact tr.2.1 i hi
  · rw [slo_addk hq2 hi]; exact tr.2.2 i hi
  · have hjz : jj < ssz S := b
    rw [slo_addk hq2 (show i < ssz S by omega), slo_addk hq2 hjz] at e1
    rw [pnm_congr (S := addk S j l u) (T := S) (fun k hk => slo_addk hq2 (by omega)) (fun k hk => rfl), pnm_congr (S := addk S j l u) (T := S) (i := jj) (fun k hk => slo_addk hq2 (by omega)) (fun k hk => rfl)] at e2
    exact so i jj a b e1 e2
  · obtain ⟨q1, q2, q3⟩ := r4 i hi
    exact ⟨q1, Nat.le_succ_of_le q2, q3⟩
  · obtain ⟨q1, q2⟩ := t2 p hp
    exact ⟨Nat.le_succ_of_le q1, q2⟩
  · show 2 * ssz S + spc S + (if skc S + 1 = 0 then 0 else 1) + (if svc S = 0 then 0 else 1) ≤ _
    rw [if_neg (by omega)]
    omega
theorem Wf_kind (h : Wf S c) (o : Int32) (u : Bool) : Wf (kindS S o u).2 (c + 1) := by
  have hk := h.1
  unfold kindS
  by_cases e : o = 0 ∧ skc S = 0
  · rw [if_pos e]
    exact Wf_addk h (by omega) (Or.inl ⟨rfl, rfl⟩)
  · rw [if_neg e]
    cases ek : ki (skc S) o with
    | none => exact h.up
    | some j =>
      obtain ⟨e1, e2, e3⟩ := ki_some (by have := hk.1; omega) ek
      dsimp only
      by_cases e4 : slv S j = 8 ∨ skc S = 20
      · rw [if_pos e4]; exact h.up
      · rw [if_neg e4]
        have := (hk.2.1 j e2 e3).2.1
        have := hk.1
        exact Wf_addk h (by omega) (Or.inr ⟨e2, e3, rfl, by omega⟩)
theorem Wf_part (h : Wf S c) (k op : Int32) (key : Int64) : Wf (partS S k op key).2 (c + 1) := by
  obtain ⟨hk, hq, hl, ⟨t1, t2, t3⟩, hc⟩ := id h
  unfold partS
  cases ek : ki (skc S) k with
  | none => exact h.up
  | some j =>
    cases eo : kz 6 op with
    | none => exact h.up
    | some oo =>
      obtain ⟨e1, e2, e3⟩ := ki_some (by have := hk.1; omega) ek
      obtain ⟨f1, f2⟩ := kz_some (by omega) eo
      dsimp only
      by_cases e : spc S = 8
      · rw [if_pos e]; exact h.up
      · rw [if_neg e]
        refine ⟨hk, hq, hl, ⟨?_, fun p hp => ?_, fun p hp => ?_⟩, hc.up (Nat.le_succ _) hc.2.1 ?_⟩
        · show spc S + 1 ≤ 8; omega
        · show (if p = spc S then j else spk S p) ≤ skc S ∧ (if p = spc S then oo else sop S p) ≤ 6 ∧ (if p = spc S then 0 else scd S p) ≤ 15
          by_cases z : p = spc S
          · rw [if_pos z, if_pos z, if_pos z]; omega
          · rw [if_neg z, if_neg z, if_neg z]; exact t2 p hp
        · have hp2 : p < spc S + 1 := hp
          show 1 ≤ (if p = spc S then j else spk S p)
          by_cases z : p = spc S
          · rw [if_pos z]; omega
          · rw [if_neg z]; exact t3 p (by omega)
        · show 2 * ssz S + (spc S + 1) + (if skc S = 0 then 0 else 1) + (if svc S = 0 then 0 else 1) ≤ _
          omega
theorem Wf_code (h : Wf S c) (k op : Int32) : Wf (codeS S k op).2 (c + 1) := by
  obtain ⟨hk, hq, hl, ⟨t1, t2, t3⟩, hc⟩ := id h
  unfold codeS
  cases ek : ki (spc S) k with
  | none => exact h.up
  | some j =>
    cases eo : kz 15 op with
    | none => exact h.up
    | some oo =>
      obtain ⟨f1, f2⟩ := kz_some (by omega) eo
      refine ⟨hk, hq, hl, ⟨t1, fun p hp => ?_, t3⟩, hc.up (Nat.le_succ _) hc.2.1 (Nat.le_succ _)⟩
      obtain ⟨q1, q2, q3⟩ := t2 p hp
      refine ⟨q1, q2, ?_⟩
      show (if p = j - 1 then oo else scd S p) ≤ 15
      by_cases z : p = j - 1
      · rw [if_pos z]; omega
      · rw [if_neg z]; exact q3
theorem Wf_rule (h : Wf S c) (k op : Int32) : Wf (ruleS S k op).2 (c + 1) := by
  obtain ⟨⟨k1, k2, k3⟩, hq, hl, ht, hc⟩ := id h
  unfold ruleS
  cases ek : ki (skc S) k with
  | none => exact h.up
  | some j =>
    cases eo : kz 2 op with
    | none => exact h.up
    | some oo =>
      obtain ⟨e1, e2, e3⟩ := ki_some (by omega) ek
      obtain ⟨f1, f2⟩ := kz_some (by omega) eo
      refine ⟨⟨k1, fun k a b => ?_, fun k a => ?_⟩, hq, hl, ht, hc.up (Nat.le_succ _) hc.2.1 (Nat.le_succ _)⟩
      · obtain ⟨q1, q2, q3, q4, q5⟩ := k2 k a b
        refine ⟨q1, q2, q3, ?_, q5⟩
        show (if k = j then oo else sru S k) ≤ 2
        by_cases z : k = j
        · rw [if_pos z]; omega
        · rw [if_neg z]; exact q4
      · obtain ⟨q1, q2, q3⟩ := k3 k a
        refine ⟨q1, q2, ?_⟩
        have a2 : k = 0 ∨ skc S < k := a
        show (if k = j then oo else sru S k) = 0
        rw [if_neg (by omega)]; exact q3
end W1
