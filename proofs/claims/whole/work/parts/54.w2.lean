-- well formed after replace, delete, get, insert
section W2
variable {S : PS} {c : Nat}
theorem Wf_hd0 (h : Wf S c) (v : Nat) : Wf (uhd S v false) c := by
  obtain ⟨hk, hq, ⟨l1, l2, l3⟩, ht, hc⟩ := h
  refine ⟨hk, hq, ⟨l1, fun w a b => ?_, fun w a => ?_⟩, ht, hc⟩
  · obtain ⟨q1, q2, q3⟩ := l2 w a b
    refine ⟨q1, q2, fun z => q3 ?_⟩
    have z2 : (if w = v then false else shd S w) = true := z
    by_cases e : w = v
    · rw [if_pos e] at z2; cases z2
    · rw [if_neg e] at z2; exact z2
  · obtain ⟨q1, q2, q3⟩ := l3 w a
    refine ⟨q1, q2, ?_⟩
    show (if w = v then false else shd S w) = false
    by_cases e : w = v
    · rw [if_pos e]
    · rw [if_neg e]; exact q3
theorem Wf_pc0 (h : Wf S c) : Wf (upc S 0) c := by
  obtain ⟨hk, hq, hl, ⟨t1, t2, t3⟩, c1, c2, c3⟩ := h
  refine ⟨hk, hq, hl, ⟨Nat.zero_le _, t2, fun p hp => absurd (show p < 0 from hp) (by omega)⟩, c1, c2, ?_⟩
  show 2 * ssz S + 0 + (if skc S = 0 then 0 else 1) + (if svc S = 0 then 0 else 1) ≤ c
  omega
theorem Wf_repl (h : Wf S c) (v : Int32) (w : Int64) : Wf (replS S v w).2 (c + 1) := by
  unfold replS
  cases ek : ki (svc S) v with
  | none => exact h.up
  | some j =>
    dsimp only
    by_cases e : shd S j = true
    · rw [if_pos e]
      cases ep : plc S (spo S j) with
      | none => exact h.up
      | some k => exact Wf.up (Wf_hd0 (S := uvl S k w) h j)
    · rw [if_neg e]; exact h.up
theorem Lv_del {S : PS} {f nm : Nat} (hN : Nm S) (hf : f < ssz S) (h : Lv S nm) (hn : ¬ inR S f (plc S nm) = true) : Lv (delR S f) nm := by
  have b1 := bhd_lt S f
  have b2 := bhd_ub S hf
  rcases h with h | ⟨i, h1, h2⟩
  · exact Or.inl h
  · rw [← h2, plc_of hN h1] at hn
    have h3 : ¬ (f ≤ i ∧ i < bhd S f) := fun z => hn (decide_eq_true z)
    obtain ⟨i', e1, e2⟩ := sg_of (f := f) (n := bhd S f - f) (p := i) (by omega)
    have h4 : i' + (bhd S f - f) < ssz S := by
      unfold sg at e1
      split at e1 <;> omega
    refine Or.inr ⟨i', ?_, ?_⟩
    · show i' < ssz S - (bhd S f - f)
      omega
    · show dsh (snm S) f (bhd S f - f) (ssz S) i' = nm
      rw [dsh_sg h4, e1, h2]
theorem Lv_ahead {f : Nat} (hq : QW S) (hf : f < ssz S) : Lv (delR S f) (aheadS S f) := by
  have b1 := bhd_lt S f
  have b2 := bhd_ub S hf
  unfold aheadS
  by_cases z : f = 0
  · rw [if_pos z]; exact Or.inl rfl
  · rw [if_neg z]
    refine Or.inr ⟨f - 1, ?_, ?_⟩
    · show f - 1 < ssz S - (bhd S f - f)
      omega
    · show dsh (snm S) f (bhd S f - f) (ssz S) (f - 1) = snm S (f - 1)
      rw [dsh_sg (by omega)]
      unfold sg
      rw [if_pos (by omega)]
theorem Wf_deld (h : Wf S c) {f : Nat} (hf : f < ssz S) : Wf (deldS S f) (c + 1) := by
  obtain ⟨hk, hq, ⟨l1, l2, l3⟩, ht, hc⟩ := h
  have hq2 := hq
  obtain ⟨n1, tr, so, r4⟩ := hq
  have b1 := bhd_lt S f
  have b2 := bhd_ub S hf
  refine ⟨hk, ⟨del_Nm n1 hf, del_Tr tr hf, del_So tr so hf, fun i hi => ?_⟩, ⟨l1, fun v a b => ?_, fun v a => ?_⟩, ht, hc.up (Nat.le_succ _) (fun z => hc.2.1 (by omega)) ?_⟩
  · have hi2 : i < ssz S - (bhd S f - f) := hi
    show 1 ≤ dsh (sso S) f (bhd S f - f) (ssz S) i ∧ dsh (sso S) f (bhd S f - f) (ssz S) i ≤ skc S ∧ dsh (snm S) f (bhd S f - f) (ssz S) i ≤ snd S
    rw [dsh_sg (by omega), dsh_sg (by omega)]
    exact r4 _ (sg_lt (by omega))
  · obtain ⟨q1, q2, q3⟩ := l2 v a b
    have b3 : v ≤ svc S := b
    refine ⟨?_, ?_, fun z => ?_⟩
    · show Lv (delR S f) (dpo S f (aheadS S f) (svc S + 1) v)
      unfold dpo
      by_cases e : (1 ≤ v ∧ v < svc S + 1) ∧ inR S f (plc S (spo S v)) = true
      · rw [if_pos e]; exact Lv_ahead hq2 hf
      · rw [if_neg e]
        exact Lv_del n1 hf q1 (fun z => e ⟨⟨a, by omega⟩, z⟩)
    · show Lv (delR S f) (dpr S f (svc S + 1) v)
      unfold dpr
      by_cases e : (1 ≤ v ∧ v < svc S + 1) ∧ inR S f (plc S (spr S v)) = true
      · rw [if_pos e]; exact Or.inl rfl
      · rw [if_neg e]
        exact Lv_del n1 hf q2 (fun z => e ⟨⟨a, by omega⟩, z⟩)
    · have z2 : dhd S f (svc S + 1) v = true := z
      unfold dhd at z2
      show dpo S f (aheadS S f) (svc S + 1) v ≠ 0
      unfold dpo
      by_cases e : (1 ≤ v ∧ v < svc S + 1) ∧ inR S f (plc S (spo S v)) = true
      · rw [if_pos e] at z2; cases z2
      · rw [if_neg e] at z2 ⊢
        exact q3 z2
  · have a2 : v = 0 ∨ svc S < v := a
    obtain ⟨q1, q2, q3⟩ := l3 v a
    show dpo S f (aheadS S f) (svc S + 1) v = 0 ∧ dpr S f (svc S + 1) v = 0 ∧ dhd S f (svc S + 1) v = false
    unfold dpo dpr dhd
    rw [if_neg (by omega), if_neg (by omega), if_neg (by omega)]
    exact ⟨q1, q2, q3⟩
  · show 2 * (ssz S - (bhd S f - f)) + spc S + (if skc S = 0 then 0 else 1) + (if svc S = 0 then 0 else 1) ≤ _
    omega
theorem Wf_del (h : Wf S c) (v : Int32) : Wf (delS S v).2 (c + 1) := by
  unfold delS
  cases ek : ki (svc S) v with
  | none => exact h.up
  | some j =>
    dsimp only
    by_cases e : shd S j = true
    · rw [if_pos e]
      cases ep : plc S (spo S j) with
      | none => exact h.up
      | some f => exact Wf_deld h (plc_lt ep).1
    · rw [if_neg e]; exact h.up
/-- the views, written anew -/
theorem Wf_mkT (h : Wf S c) {v : Nat} (hv1 : 1 ≤ v) (hv2 : v ≤ svc S) {po pr : Nat → Nat} {sh : Nat → Int64} {b : Bool} (h1 : ∀ i, i ≠ v → po i = spo S i ∧ pr i = spr S i) (h2 : Lv S (po v)) (h3 : Lv S (pr v)) (h4 : b = true → po v ≠ 0) : Wf (uhd (mkT S po pr sh) v b) c := by
  obtain ⟨hk, hq, ⟨l1, l2, l3⟩, ht, hc⟩ := h
  refine ⟨hk, hq, ⟨l1, fun w a d => ?_, fun w a => ?_⟩, ht, hc⟩
  · by_cases e : w = v
    · subst e
      refine ⟨h2, h3, fun z => h4 ?_⟩
      have z2 : (if w = w then b else shd S w) = true := z
      rw [if_pos rfl] at z2; exact z2
    · obtain ⟨q1, q2, q3⟩ := l2 w a d
      obtain ⟨g1, g2⟩ := h1 w e
      refine ⟨?_, ?_, fun z => ?_⟩
      · show Lv S (po w); rw [g1]; exact q1
      · show Lv S (pr w); rw [g2]; exact q2
      · have z2 : (if w = v then b else shd S w) = true := z
        rw [if_neg e] at z2
        show po w ≠ 0
        rw [g1]; exact q3 z2
  · have a2 : w = 0 ∨ svc S < w := a
    have e : w ≠ v := by omega
    obtain ⟨q1, q2, q3⟩ := l3 w a
    obtain ⟨g1, g2⟩ := h1 w e
    refine ⟨g1.trans q1, g2.trans q2, ?_⟩
    show (if w = v then b else shd S w) = false
    rw [if_neg e]; exact q3
theorem flp_Lv {S : PS} {v f : Nat} {pr : Nat → Nat} (hf : f < ssz S) (hp : Lv S (pr v)) : ∀ n, Lv S (flp S v f n pr v)
  | 0 => hp
  | n + 1 => by
    rw [flp]
    by_cases e : cb (scd S n) 4 = true
    · rw [if_pos e]
      cases ek : okd S (some f) (spk S n) with
      | none => exact flp_Lv hf hp n
      | some k =>
        show Lv S (if v = v then snm S k else _)
        rw [if_pos rfl]
        have := (okd_lt ek).1
        exact Or.inr ⟨k, by omega, rfl⟩
    · rw [if_neg e]; exact flp_Lv hf hp n
theorem Wf_finds (h : Wf S c) {v : Nat} (hv1 : 1 ≤ v) (hv2 : v ≤ svc S) (hh : shd S v = false) (cc n : Nat) (b : Bool) (hb : b = true → ∃ f, findsS S v cc n = (statS S cc n (plc S (spo S v)) f, foundS S v cc n f)) : Wf (uhd (findsS S v cc n).2 v b) c := by
  have hN := h.2.1.1
  have hb0 : (¬ ∃ f, findsS S v cc n = (statS S cc n (plc S (spo S v)) f, foundS S v cc n f)) → b = false := by
    intro z
    cases e : b with
    | false => rfl
    | true => exact absurd (hb e) z
  unfold findsS at hb hb0 ⊢
  by_cases e : cc = 2 ∧ plc S (spr S v) = none
  · rw [if_pos e] at hb hb0 ⊢
    cases eb : b with
    | false => exact Wf_hd0 h v
    | true =>
      obtain ⟨f, hf⟩ := hb eb
      have h1 := (Prod.mk.inj hf).1
      have h2 := statS_of (S := S) (c := cc) (n := n) (f := f) (pos := plc S (spo S v))
      rw [← h1] at h2
      exact absurd h2 (by decide)
  · rw [if_neg e] at hb hb0 ⊢
    cases ef : frst S (fromS S cc (plc S (spo S v)) (plc S (spr S v))) (toS S cc (plc S (spr S v))) n (plc S (spo S v)) with
    | none =>
      rw [ef] at hb
      unfold resS at hb ⊢
      dsimp only at hb ⊢
      have hbf : b = false := by
        cases eb : b with
        | false => rfl
        | true =>
          obtain ⟨f, hf⟩ := hb eb
          have h2 := statS_of (S := S) (c := cc) (n := n) (f := f) (pos := plc S (spo S v))
          by_cases q : cc = 1
          · rw [if_pos q] at hf
            rw [← (Prod.mk.inj hf).1] at h2
            exact absurd h2 (by decide)
          · rw [if_neg q] at hf
            rw [← (Prod.mk.inj hf).1] at h2
            exact absurd h2 (by decide)
      rw [hbf]
      by_cases q : cc = 1
      · rw [if_pos q]
        have h1 := Wf_mkT h hv1 hv2 (po := fun i => if i = v then 0 else spo S i) (pr := spr S) (sh := ssh S) (b := false) (fun i hi => ⟨if_neg hi, rfl⟩) (by rw [if_pos rfl]; exact Or.inl rfl) (h.2.2.1.2.1 v hv1 hv2).2.1 (fun z => by cases z)
        exact h1
      · rw [if_neg q]; exact Wf_hd0 h v
    | some f =>
      obtain ⟨a1, a2, a3⟩ := frst_some ef
      have hto : toS S cc (plc S (spr S v)) ≤ ssz S := by
        unfold toS
        split
        · split
          · rename_i k ek2
            exact bhd_ub S (plc_lt ek2).1
          · omega
        · exact Nat.le_refl _
      have hf : f < ssz S := by omega
      show Wf (uhd (foundS S v cc n f) v b) c
      unfold foundS
      refine Wf_mkT h hv1 hv2 (fun i hi => ⟨if_neg hi, ?_⟩) ?_ ?_ ?_
      · rw [flp_ne n i hi, if_neg hi]
      · rw [if_pos rfl]; exact Or.inr ⟨f, hf, rfl⟩
      · refine flp_Lv hf ?_ n
        rw [if_pos rfl]
        by_cases q : cc < 2
        · rw [if_pos q]; exact Or.inr ⟨f, hf, rfl⟩
        · rw [if_neg q]; exact (h.2.2.1.2.1 v hv1 hv2).2.1
      · intro _
        rw [if_pos rfl]
        have := hN.1 f hf
        omega
theorem Wf_get (h : Wf S c) (view call : Int32) : Wf (getS S view call).2 (c + 1) := by
  refine Wf.up ?_
  unfold getS
  cases ek : ki (svc S) view with
  | none => exact h
  | some v =>
    have h2 := Wf_hd0 (Wf_pc0 h) v
    obtain ⟨e1, e2, e3⟩ := ki_some (by have := h.2.2.1.1; omega) ek
    dsimp only
    cases ea : kz 6 call with
    | none => exact h2
    | some a =>
      dsimp only
      by_cases q : a = 3 ∨ af S (spc S) = false
      · rw [if_pos q]; exact h2
      · rw [if_neg q]
        dsimp only
        refine Wf_finds h2 e2 e3 (if_pos rfl) (a % 4) (spc S) _ (fun z => ?_)
        have z2 := (of_decide_eq_true z).2
        generalize uhd (upc S 0) v false = S2 at z2 ⊢
        unfold findsS at z2 ⊢
        by_cases q2 : a % 4 = 2 ∧ plc S2 (spr S2 v) = none
        · rw [if_pos q2] at z2
          have z3 : (5 : Int32) = 0 ∨ (5 : Int32) = 3 ∨ (5 : Int32) = 4 := z2
          exact absurd z3 (by decide)
        · rw [if_neg q2] at z2 ⊢
          cases ef : frst S2 (fromS S2 (a % 4) (plc S2 (spo S2 v)) (plc S2 (spr S2 v))) (toS S2 (a % 4) (plc S2 (spr S2 v))) (spc S) (plc S2 (spo S2 v)) with
          | none =>
            rw [ef] at z2
            unfold resS at z2
            dsimp only at z2
            by_cases q3 : a % 4 = 1
            · rw [if_pos q3] at z2
              have z3 : (2 : Int32) = 0 ∨ (2 : Int32) = 3 ∨ (2 : Int32) = 4 := z2
              exact absurd z3 (by decide)
            · rw [if_neg q3] at z2
              have z3 : (1 : Int32) = 0 ∨ (1 : Int32) = 3 ∨ (1 : Int32) = 4 := z2
              exact absurd z3 (by decide)
          | some f => exact ⟨f, rfl⟩
end W2
