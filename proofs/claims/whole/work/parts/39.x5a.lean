-- the class's cells, written one at a time
theorem tag_ne {h : AH} {a b t1 t2 : Nat} {l1 l2 : List Value} (ha : h.2 a = some (t1, l1)) (hb : h.2 b = some (t2, l2)) (hne : t1 ≠ t2) : a ≠ b := fun e => hne (by rw [e, hb] at ha; cases ha; rfl)
def Hok (h : AH) : Prop := ∀ q c, h.2 q = some c → q < h.1
theorem Hok.set {h : AH} {q : Nat} {c c0 : AC} (hh : Hok h) (h0 : h.2 q = some c0) : Hok (aset h q c) := by
  intro j d hj
  by_cases e : j = q
  · rw [e]; exact hh q c0 h0
  · rw [aset_ne e] at hj; exact hh j d hj
theorem Hok.push {h : AH} {c : AC} (hh : Hok h) : Hok (apush h c) := by
  intro j d hj
  rw [apush_n]
  by_cases e : j = h.1
  · omega
  · rw [apush_ne e] at hj
    have := hh j d hj
    omega
/-- a cell of the reference's -/
def Mt (B : XB) (q : Nat) (c : AC) : Prop := c.1 = 6 ∨ c.1 = 55 ∨ c.1 = 56 ∨ (c.1 = 54 ∧ q ≠ xC B 5)
def XF (h h2 : AH) (B B2 : XB) : Prop := xC B2 = xC B ∧ (∀ q c, h.2 q = some c → Mt B q c → h2.2 q = some c) ∧ h.1 ≤ h2.1 ∧ h2.1 ≤ h.1 + 1 ∧ Hok h2
theorem XF_rf {h : AH} {B : XB} (hh : Hok h) : XF h h B B := ⟨rfl, fun _ _ h1 _ => h1, Nat.le_refl _, Nat.le_succ _, hh⟩
/-- one of the class's own cells is written -/
theorem XF_set {h h2 : AH} {B B2 : XB} {q : Nat} {c c0 : AC} (hF : XF h h2 B B2) (h0 : h2.2 q = some c0) (hn : ¬ Mt B q c0) : XF h (aset h2 q c) B B2 := by
  obtain ⟨f1, f2, f3, f4, f5⟩ := hF
  refine ⟨f1, fun j d hj hm => ?_, f3, f4, f5.set h0⟩
  have h1 := f2 j d hj hm
  by_cases e : j = q
  · subst e
    rw [h1] at h0
    cases h0
    exact absurd hm hn
  · rw [aset_ne e]; exact h1
def JX (h0 h : AH) (o : Nat) (B0 B : XB) (S : PS) : Prop := IX h o B S ∧ XF h0 h B0 B
def PX (h : AH) (o : Nat) (B : XB) (res : Int32 × PS) : Option Value → AH → Prop := fun r h' => r = some (.int res.1) ∧ ∃ B2, JX h h' o B B2 res.2
theorem nMt {B : XB} {q t : Nat} {l : List Value} (h1 : t ≠ 6) (h2 : t ≠ 55) (h3 : t ≠ 56) (h4 : t ≠ 54) : ¬ Mt B q (t, l) := by
  rintro (z | z | z | z)
  · exact h1 z
  · exact h2 z
  · exact h3 z
  · exact h4 z.1
theorem pMt {B B0 : XB} {t : Nat} {l : List Value} (ht : t = 54) (hB : xC B = xC B0) : ¬ Mt B0 (xC B 5) (t, l) := by
  subst ht
  rintro (z | z | z | z)
  · exact absurd (show (54 : Nat) = 6 from z) (by decide)
  · exact absurd (show (54 : Nat) = 55 from z) (by decide)
  · exact absurd (show (54 : Nat) = 56 from z) (by decide)
  · exact z.2 (by rw [hB])
section X5A
variable {h0 h : AH} {o : Nat} {B0 B : XB} {S : PS}
theorem JX_view (hJ : JX h0 h o B0 B S) {v : Nat} (hv1 : 1 ≤ v) (hv2 : v ≤ svc S) {po pr : Nat → Nat} {hd : Nat → Bool} (hk : ∀ w, w ≠ v → po w = spo S w ∧ pr w = spr S w ∧ hd w = shd S w) : JX h0 (aset h (xv B v) (3, [va_rf (sr B (po v)), va_rf (sr B (pr v)), .int (ob (hd v))])) o B0 B (mkV S po pr hd) := by
  obtain ⟨⟨ho, hka, hva, hpa, hba, hra, hpv, h8, h9, h10, h11, iv, ip, is⟩, hF⟩ := hJ
  have hc := h9 v hv1 hv2
  refine ⟨⟨(aset_ne (tag_ne ho hc (by decide))).trans ho, (aset_ne (tag_ne hka hc (by decide))).trans hka, (aset_ne (tag_ne hva hc (by decide))).trans hva, (aset_ne (tag_ne hpa hc (by decide))).trans hpa, (aset_ne (tag_ne hba hc (by decide))).trans hba, (aset_ne (tag_ne hra hc (by decide))).trans hra, (aset_ne (tag_ne hpv hc (by decide))).trans hpv, fun k h1 h2 => (aset_ne (tag_ne (h8 k h1 h2) hc (by decide))).trans (h8 k h1 h2), fun w h1 h2 => ?_, fun p h1 => (aset_ne (tag_ne (h10 p h1) hc (by decide))).trans (h10 p h1), fun i h1 => (aset_ne (tag_ne (h11 i h1) hc (by decide))).trans (h11 i h1), iv, ip, is⟩, XF_set hF hc (nMt (by decide) (by decide) (by decide) (by decide))⟩
  by_cases e : w = v
  · subst e
    exact aset_self _ _ _
  · obtain ⟨k1, k2, k3⟩ := hk w e
    rw [aset_ne (fun z => e (iv w v h2 hv2 h1 hv1 z)), h9 w h1 h2]
    show some (3, [va_rf (sr B (spo S w)), va_rf (sr B (spr S w)), .int (ob (shd S w))]) = some (3, [va_rf (sr B (po w)), va_rf (sr B (pr w)), .int (ob (hd w))])
    rw [k1, k2, k3]
theorem JX_part (hJ : JX h0 h o B0 B S) {p : Nat} (hp : p < 8) (T : TS) (hk : ∀ q, q ≠ p → T.2.1 q = spk S q ∧ T.2.2.1 q = sop S q ∧ T.2.2.2.1 q = scd S q ∧ T.2.2.2.2 q = spy S q) (hn : T.1 = spc S) : JX h0 (aset h (xp B p) (4, [va_rf (kr B (T.2.1 p)), .int (nI (T.2.2.1 p)), .long (T.2.2.2.2 p), .int (nI (T.2.2.2.1 p))])) o B0 B (S.1, S.2.1, S.2.2.1, T, S.2.2.2.2) := by
  obtain ⟨⟨ho, hka, hva, hpa, hba, hra, hpv, h8, h9, h10, h11, iv, ip, is⟩, hF⟩ := hJ
  have hc := h10 p hp
  refine ⟨⟨(aset_ne (tag_ne ho hc (by decide))).trans (ho.trans ?_), (aset_ne (tag_ne hka hc (by decide))).trans hka, (aset_ne (tag_ne hva hc (by decide))).trans hva, (aset_ne (tag_ne hpa hc (by decide))).trans hpa, (aset_ne (tag_ne hba hc (by decide))).trans hba, (aset_ne (tag_ne hra hc (by decide))).trans hra, (aset_ne (tag_ne hpv hc (by decide))).trans hpv, fun k h1 h2 => (aset_ne (tag_ne (h8 k h1 h2) hc (by decide))).trans (h8 k h1 h2), fun w h1 h2 => (aset_ne (tag_ne (h9 w h1 h2) hc (by decide))).trans (h9 w h1 h2), fun q h1 => ?_, fun i h1 => (aset_ne (tag_ne (h11 i h1) hc (by decide))).trans (h11 i h1), iv, ip, is⟩, XF_set hF hc (nMt (by decide) (by decide) (by decide) (by decide))⟩
  · have e9 : xfs B (S.1, S.2.1, S.2.2.1, T, S.2.2.2.2) = xfs B S := by
      unfold xfs
      rw [show spc (S.1, S.2.1, S.2.2.1, T, S.2.2.2.2) = spc S from hn]
    rw [e9]
  · by_cases e : q = p
    · subst e
      exact aset_self _ _ _
    · obtain ⟨k1, k2, k3, k4⟩ := hk q e
      rw [aset_ne (fun z => e (ip q p h1 hp z)), h10 q h1]
      show some (4, [va_rf (kr B (spk S q)), .int (nI (sop S q)), .long (spy S q), .int (nI (scd S q))]) = some (4, [va_rf (kr B (T.2.1 q)), .int (nI (T.2.2.1 q)), .long (T.2.2.2.2 q), .int (nI (T.2.2.2.1 q))])
      rw [k1, k2, k3, k4]
theorem JX_pc (hJ : JX h0 h o B0 B S) (n : Nat) : JX h0 (aset h o (0, (xfs B S).set 5 (.int (nI n)))) o B0 B (upc S n) := by
  obtain ⟨⟨ho, hka, hva, hpa, hba, hra, hpv, h8, h9, h10, h11, iv, ip, is⟩, hF⟩ := hJ
  refine ⟨⟨aset_self _ _ _, (aset_ne (tag_ne hka ho (by decide))).trans hka, (aset_ne (tag_ne hva ho (by decide))).trans hva, (aset_ne (tag_ne hpa ho (by decide))).trans hpa, (aset_ne (tag_ne hba ho (by decide))).trans hba, (aset_ne (tag_ne hra ho (by decide))).trans hra, (aset_ne (tag_ne hpv ho (by decide))).trans hpv, fun k h1 h2 => (aset_ne (tag_ne (h8 k h1 h2) ho (by decide))).trans (h8 k h1 h2), fun w h1 h2 => (aset_ne (tag_ne (h9 w h1 h2) ho (by decide))).trans (h9 w h1 h2), fun p h1 => (aset_ne (tag_ne (h10 p h1) ho (by decide))).trans (h10 p h1), fun i h1 => (aset_ne (tag_ne (h11 i h1) ho (by decide))).trans (h11 i h1), iv, ip, is⟩, XF_set hF ho (nMt (by decide) (by decide) (by decide) (by decide))⟩
theorem JX_ru (hJ : JX h0 h o B0 B S) (hk20 : skc S ≤ 20) {k : Nat} (hk1 : 1 ≤ k) (hk2 : k ≤ skc S) (r : Nat) : JX h0 (aset h (xk B k) (1, (kce B S k).set 4 (.int (nI r)))) o B0 B (uru S k r) := by
  have hinj := fun a ha ha2 => (IX_kinj hJ.1 hk20 (a := a) (b := k) ha ha2 hk1 hk2).mp
  obtain ⟨⟨ho, hka, hva, hpa, hba, hra, hpv, h8, h9, h10, h11, iv, ip, is⟩, hF⟩ := hJ
  have hc := h8 k hk1 hk2
  refine ⟨⟨(aset_ne (tag_ne ho hc (by decide))).trans ho, (aset_ne (tag_ne hka hc (by decide))).trans hka, (aset_ne (tag_ne hva hc (by decide))).trans hva, (aset_ne (tag_ne hpa hc (by decide))).trans hpa, (aset_ne (tag_ne hba hc (by decide))).trans hba, (aset_ne (tag_ne hra hc (by decide))).trans hra, (aset_ne (tag_ne hpv hc (by decide))).trans hpv, fun j h1 h2 => ?_, fun w h1 h2 => (aset_ne (tag_ne (h9 w h1 h2) hc (by decide))).trans (h9 w h1 h2), fun p h1 => (aset_ne (tag_ne (h10 p h1) hc (by decide))).trans (h10 p h1), fun i h1 => (aset_ne (tag_ne (h11 i h1) hc (by decide))).trans (h11 i h1), iv, ip, is⟩, XF_set hF hc (nMt (by decide) (by decide) (by decide) (by decide))⟩
  by_cases e : j = k
  · subst e
    rw [aset_self]
    show some (1, [.int (nI j), .int (nI (slv S j)), va_rf (kr B (sab S j)), .int (ob (sun S j)), .int (nI r)]) = some (1, [.int (nI j), .int (nI (slv S j)), va_rf (kr B (sab S j)), .int (ob (sun S j)), .int (nI (if j = j then r else sru S j))])
    rw [if_pos rfl]
  · rw [aset_ne (fun z => e (hinj j h1 h2 z)), h8 j h1 h2]
    show some (1, [.int (nI j), .int (nI (slv S j)), va_rf (kr B (sab S j)), .int (ob (sun S j)), .int (nI (sru S j))]) = some (1, [.int (nI j), .int (nI (slv S j)), va_rf (kr B (sab S j)), .int (ob (sun S j)), .int (nI (if j = k then r else sru S j))])
    rw [if_neg e]
theorem JX_vl (hJ : JX h0 h o B0 B S) {i : Nat} (hi : i < ssz S) (w : Int64) : JX h0 (aset h (xs B (snm S i)) (2, (sce B S i).set 3 (.long w))) o B0 B (uvl S i w) := by
  obtain ⟨⟨ho, hka, hva, hpa, hba, hra, hpv, h8, h9, h10, h11, iv, ip, is⟩, hF⟩ := hJ
  have hc := h11 i hi
  refine ⟨⟨(aset_ne (tag_ne ho hc (by decide))).trans ho, (aset_ne (tag_ne hka hc (by decide))).trans hka, (aset_ne (tag_ne hva hc (by decide))).trans hva, (aset_ne (tag_ne hpa hc (by decide))).trans hpa, (aset_ne (tag_ne hba hc (by decide))).trans hba, (aset_ne (tag_ne hra hc (by decide))).trans hra, (aset_ne (tag_ne hpv hc (by decide))).trans hpv, fun k h1 h2 => (aset_ne (tag_ne (h8 k h1 h2) hc (by decide))).trans (h8 k h1 h2), fun v h1 h2 => (aset_ne (tag_ne (h9 v h1 h2) hc (by decide))).trans (h9 v h1 h2), fun p h1 => (aset_ne (tag_ne (h10 p h1) hc (by decide))).trans (h10 p h1), fun j h1 => ?_, iv, ip, is⟩, XF_set hF hc (nMt (by decide) (by decide) (by decide) (by decide))⟩
  by_cases e : j = i
  · subst e
    show (aset h (xs B (snm S j)) _).2 (xs B (snm S j)) = _
    rw [aset_self]
    show some (2, [.ref (xk B (sso S j)), va_rf (sr B (pnm S j)), .long (sky S j), .long w]) = some (2, [.ref (xk B (sso S j)), va_rf (sr B (pnm S j)), .long (sky S j), .long (if j = j then w else svl S j)])
    rw [if_pos rfl]
  · show (aset h (xs B (snm S i)) _).2 (xs B (snm S j)) = _
    rw [aset_ne (fun z => e (is j i h1 hi z)), h11 j h1]
    show some (2, [.ref (xk B (sso S j)), va_rf (sr B (pnm S j)), .long (sky S j), .long (svl S j)]) = some (2, [.ref (xk B (sso S j)), va_rf (sr B (pnm S j)), .long (sky S j), .long (if j = i then w else svl S j)])
    rw [if_neg e]
theorem JX_sh (hJ : JX h0 h o B0 B S) {l : Nat} (hl : l < 8) (w : Int64) : JX h0 (aset h (xC B 5) (50 + 4, (arv 8 (fun i => .long (ssh S (i + 1)))).set l (.long w))) o B0 B (ush S (l + 1) w) := by
  obtain ⟨⟨ho, hka, hva, hpa, hba, hra, hpv, h8, h9, h10, h11, iv, ip, is⟩, hF⟩ := hJ
  refine ⟨⟨(aset_ne (tag_ne ho hpv (by decide))).trans ho, (aset_ne (tag_ne hka hpv (by decide))).trans hka, (aset_ne (tag_ne hva hpv (by decide))).trans hva, (aset_ne (tag_ne hpa hpv (by decide))).trans hpa, (aset_ne (tag_ne hba hpv (by decide))).trans hba, (aset_ne (tag_ne hra hpv (by decide))).trans hra, (aset_self _ _ _).trans ?_, fun k h1 h2 => (aset_ne (tag_ne (h8 k h1 h2) hpv (by decide))).trans (h8 k h1 h2), fun v h1 h2 => (aset_ne (tag_ne (h9 v h1 h2) hpv (by decide))).trans (h9 v h1 h2), fun p h1 => (aset_ne (tag_ne (h10 p h1) hpv (by decide))).trans (h10 p h1), fun j h1 => (aset_ne (tag_ne (h11 j h1) hpv (by decide))).trans (h11 j h1), iv, ip, is⟩, XF_set hF hpv (pMt rfl hF.1)⟩
  rw [arv_set]
  refine congrArg (fun g => some (50 + 4, arv 8 g)) ?_
  funext i
  show (if i = l then Value.long w else Value.long (ssh S (i + 1))) = Value.long (if i + 1 = l + 1 then w else ssh S (i + 1))
  by_cases e : i = l
  · rw [if_pos e, if_pos (by omega)]
  · rw [if_neg e, if_neg (by omega)]
end X5A
