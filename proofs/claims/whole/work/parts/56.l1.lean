-- the law: what holds between two calls
theorem V_hok {x : CX} {own : String} {cc : ByteArray} {nL : Nat} {rt : Option FieldType} {ini : Bool} {R : Room} {mc ms : Nat} {Post : Option Value → AH → Prop} {pc : Nat} {L : List (Nat × Value)} {st : List Value} {h : AH} {k n : Nat} (kk : Hok h → V x own cc nL rt ini R mc ms Post pc L st h k n) : V x own cc nL rt ini R mc ms Post pc L st h k n := by
  intro p e s m args below meth c E H locs ls hR hlo hl
  exact kk (fun q d hq => by have h1 := (hR.2.2.1 q d hq).2.lt; have h2 := hR.1; omega) p e s m args below meth c E H locs ls hR hlo hl
theorem nI_k (i k : Nat) : nI i + nI k = nI (i + k) := by
  unfold nI
  exact (Int32.ofNat_add i k).symm
def AA (a : Nat) : Nat → Nat := fun i => a + pm i
def INV (h : AH) (o m a : Nat) (B : XB) (S : PS) (c : Nat) : Prop := IX h o B S ∧ IM h m (AA a) S ∧ Wf S c ∧ (∀ i, AA a i ≠ xC B 5) ∧ h.1 ≤ a + 16 + c
/-- the class's call leaves the reference's cells -/
theorem IM_cls {h g : AH} {m : Nat} {A : Nat → Nat} {B B2 : XB} {S : PS} (hM : IM h m A S) (hF : XF h g B B2) (hs : ∀ i, A i ≠ xC B 5) : IM g m A S := by
  obtain ⟨hm, h0, h1, h2, h3, h5, h6, h7, h8, h11, h12, h13, h15, h16, h17, h18, h20, hinj, hmA⟩ := hM
  obtain ⟨f1, f2, f3, f4, f5⟩ := hF
  exact ⟨f2 _ _ hm (Or.inl rfl), f2 _ _ h0 (Or.inr (Or.inl rfl)), f2 _ _ h1 (Or.inr (Or.inl rfl)), f2 _ _ h2 (Or.inr (Or.inl rfl)), f2 _ _ h3 (Or.inr (Or.inr (Or.inl rfl))), f2 _ _ h5 (Or.inr (Or.inl rfl)), f2 _ _ h6 (Or.inr (Or.inl rfl)), f2 _ _ h7 (Or.inr (Or.inr (Or.inr ⟨rfl, hs 7⟩))), f2 _ _ h8 (Or.inr (Or.inr (Or.inr ⟨rfl, hs 8⟩))), f2 _ _ h11 (Or.inr (Or.inl rfl)), f2 _ _ h12 (Or.inr (Or.inl rfl)), f2 _ _ h13 (Or.inr (Or.inr (Or.inl rfl))), f2 _ _ h15 (Or.inr (Or.inl rfl)), f2 _ _ h16 (Or.inr (Or.inl rfl)), f2 _ _ h17 (Or.inr (Or.inl rfl)), f2 _ _ h18 (Or.inr (Or.inr (Or.inr ⟨rfl, hs 18⟩))), f2 _ _ h20 (Or.inr (Or.inr (Or.inr ⟨rfl, hs 20⟩))), hinj, hmA⟩
/-- the reference's arrays have their kinds -/
theorem IM_tag {h : AH} {m a : Nat} {S : PS} (hM : IM h m (AA a) S) (i : Nat) : (∃ t l, h.2 (AA a i) = some (t, l) ∧ (t = 54 ∨ t = 55 ∨ t = 56)) ∨ a + 1000000 ≤ AA a i := by
  obtain ⟨hm, h0, h1, h2, h3, h5, h6, h7, h8, h11, h12, h13, h15, h16, h17, h18, h20, hinj, hmA⟩ := hM
  rcases pm_lo i with q | q
  · left
    have hi : i = 0 ∨ i = 1 ∨ i = 2 ∨ i = 3 ∨ i = 5 ∨ i = 6 ∨ i = 7 ∨ i = 8 ∨ i = 11 ∨ i = 12 ∨ i = 13 ∨ i = 15 ∨ i = 16 ∨ i = 17 ∨ i = 18 ∨ i = 20 := by
      unfold pm at q
      repeat' split at q
      all_goals omega
    rcases hi with rfl | rfl | rfl | rfl | rfl | rfl | rfl | rfl | rfl | rfl | rfl | rfl | rfl | rfl | rfl | rfl
    · exact ⟨_, _, h0, Or.inr (Or.inl rfl)⟩
    · exact ⟨_, _, h1, Or.inr (Or.inl rfl)⟩
    · exact ⟨_, _, h2, Or.inr (Or.inl rfl)⟩
    · exact ⟨_, _, h3, Or.inr (Or.inr rfl)⟩
    · exact ⟨_, _, h5, Or.inr (Or.inl rfl)⟩
    · exact ⟨_, _, h6, Or.inr (Or.inl rfl)⟩
    · exact ⟨_, _, h7, Or.inl rfl⟩
    · exact ⟨_, _, h8, Or.inl rfl⟩
    · exact ⟨_, _, h11, Or.inr (Or.inl rfl)⟩
    · exact ⟨_, _, h12, Or.inr (Or.inl rfl)⟩
    · exact ⟨_, _, h13, Or.inr (Or.inr rfl)⟩
    · exact ⟨_, _, h15, Or.inr (Or.inl rfl)⟩
    · exact ⟨_, _, h16, Or.inr (Or.inl rfl)⟩
    · exact ⟨_, _, h17, Or.inr (Or.inl rfl)⟩
    · exact ⟨_, _, h18, Or.inl rfl⟩
    · exact ⟨_, _, h20, Or.inl rfl⟩
  · right
    unfold AA
    omega
/-- the reference's call leaves the class's cells -/
theorem IX_ref {h g : AH} {o m a c : Nat} {B : XB} {S T : PS} (hX : IX h o B S) (hM : IM h m (AA a) T) (hh : Hok h) (hs : ∀ i, AA a i ≠ xC B 5) (hb : h.1 ≤ a + 16 + c) (hc : c ≤ 600) (hF : FrM h g m (AA a)) : IX g o B S := by
  have hm := hM.1
  have kp : ∀ {q t : Nat} {l : List Value}, h.2 q = some (t, l) → (t ≠ 54 ∧ t ≠ 55 ∧ t ≠ 56 ∧ t ≠ 6) → g.2 q = some (t, l) := by
    intro q t l hq ht
    rw [hF.2 q (tag_ne hq hm ht.2.2.2) (fun i e => ?_), hq]
    rcases IM_tag hM i with ⟨t2, l2, h1, h2⟩ | h1
    · rw [← e, hq] at h1
      cases h1
      omega
    · have := hh _ _ hq
      omega
  obtain ⟨ho, hka, hva, hpa, hba, hra, hpv, h8, h9, h10, h11, iv, ip, is⟩ := hX
  refine ⟨kp ho (by decide), kp hka (by decide), kp hva (by decide), kp hpa (by decide), kp hba (by decide), kp hra (by decide), ?_, fun k h1 h2 => kp (h8 k h1 h2) (by decide), fun w h1 h2 => kp (h9 w h1 h2) (by decide), fun p h1 => kp (h10 p h1) (by decide), fun i h1 => kp (h11 i h1) (by decide), iv, ip, is⟩
  rw [hF.2 (xC B 5) (tag_ne hpv hm (by decide)) (fun i e => hs i e.symm), hpv]
theorem INV_mid {h g : AH} {o m a c : Nat} {B B2 : XB} {S T : PS} (hI : INV h o m a B S c) (hJ : JX h g o B B2 T) : IM g m (AA a) S := IM_cls hI.2.1 hJ.2 hI.2.2.2.1
theorem INV_step {h g g2 : AH} {o m a c : Nat} {B B2 : XB} {S T : PS} (hI : INV h o m a B S c) (hc : c ≤ 512) (hJ : JX h g o B B2 T) (hF : IF g g2 m (AA a) T) (hw : Wf T (c + 1)) : INV g2 o m a B2 T (c + 1) := by
  obtain ⟨i1, i2, i3, i4, i5⟩ := id hI
  obtain ⟨j1, f1, f2, f3, f4, f5⟩ := id hJ
  have hM := INV_mid hI hJ
  have i4b : ∀ i, AA a i ≠ xC B2 5 := by rw [f1]; exact i4
  refine ⟨IX_ref (c := c + 1) j1 hM f5 i4b (by omega) (by omega) hF.2, hF.1, hw, i4b, ?_⟩
  have := hF.2.1
  omega
theorem INV_up {h : AH} {o m a c : Nat} {B : XB} {S : PS} (hI : INV h o m a B S c) : INV h o m a B S (c + 1) := ⟨hI.1, hI.2.1, hI.2.2.1.up, hI.2.2.2.1, by have := hI.2.2.2.2; omega⟩
