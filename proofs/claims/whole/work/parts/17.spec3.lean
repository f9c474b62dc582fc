-- updates of the state, by program (wip/whole/gm.py)
def ukc (S : PS) (v : Nat) : PS := ((v, S.1.2.1, S.1.2.2.1, S.1.2.2.2.1, S.1.2.2.2.2), S.2.1, S.2.2.1, S.2.2.2.1, S.2.2.2.2)
def uab (S : PS) (j : Nat) (v : Nat) : PS := ((S.1.1, fun i => if i = j then v else sab S i, S.1.2.2.1, S.1.2.2.2.1, S.1.2.2.2.2), S.2.1, S.2.2.1, S.2.2.2.1, S.2.2.2.2)
def ulv (S : PS) (j : Nat) (v : Nat) : PS := ((S.1.1, S.1.2.1, fun i => if i = j then v else slv S i, S.1.2.2.2.1, S.1.2.2.2.2), S.2.1, S.2.2.1, S.2.2.2.1, S.2.2.2.2)
def uru (S : PS) (j : Nat) (v : Nat) : PS := ((S.1.1, S.1.2.1, S.1.2.2.1, fun i => if i = j then v else sru S i, S.1.2.2.2.2), S.2.1, S.2.2.1, S.2.2.2.1, S.2.2.2.2)
def uun (S : PS) (j : Nat) (v : Bool) : PS := ((S.1.1, S.1.2.1, S.1.2.2.1, S.1.2.2.2.1, fun i => if i = j then v else sun S i), S.2.1, S.2.2.1, S.2.2.2.1, S.2.2.2.2)
def usz (S : PS) (v : Nat) : PS := (S.1, (v, S.2.1.2.1, S.2.1.2.2.1, S.2.1.2.2.2.1, S.2.1.2.2.2.2.1, S.2.1.2.2.2.2.2), S.2.2.1, S.2.2.2.1, S.2.2.2.2)
def und (S : PS) (v : Nat) : PS := (S.1, (S.2.1.1, v, S.2.1.2.2.1, S.2.1.2.2.2.1, S.2.1.2.2.2.2.1, S.2.1.2.2.2.2.2), S.2.2.1, S.2.2.2.1, S.2.2.2.2)
def unm (S : PS) (j : Nat) (v : Nat) : PS := (S.1, (S.2.1.1, S.2.1.2.1, fun i => if i = j then v else snm S i, S.2.1.2.2.2.1, S.2.1.2.2.2.2.1, S.2.1.2.2.2.2.2), S.2.2.1, S.2.2.2.1, S.2.2.2.2)
def uso (S : PS) (j : Nat) (v : Nat) : PS := (S.1, (S.2.1.1, S.2.1.2.1, S.2.1.2.2.1, fun i => if i = j then v else sso S i, S.2.1.2.2.2.2.1, S.2.1.2.2.2.2.2), S.2.2.1, S.2.2.2.1, S.2.2.2.2)
def uky (S : PS) (j : Nat) (v : Int64) : PS := (S.1, (S.2.1.1, S.2.1.2.1, S.2.1.2.2.1, S.2.1.2.2.2.1, fun i => if i = j then v else sky S i, S.2.1.2.2.2.2.2), S.2.2.1, S.2.2.2.1, S.2.2.2.2)
def uvl (S : PS) (j : Nat) (v : Int64) : PS := (S.1, (S.2.1.1, S.2.1.2.1, S.2.1.2.2.1, S.2.1.2.2.2.1, S.2.1.2.2.2.2.1, fun i => if i = j then v else svl S i), S.2.2.1, S.2.2.2.1, S.2.2.2.2)
def uvc (S : PS) (v : Nat) : PS := (S.1, S.2.1, (v, S.2.2.1.2.1, S.2.2.1.2.2.1, S.2.2.1.2.2.2), S.2.2.2.1, S.2.2.2.2)
def upo (S : PS) (j : Nat) (v : Nat) : PS := (S.1, S.2.1, (S.2.2.1.1, fun i => if i = j then v else spo S i, S.2.2.1.2.2.1, S.2.2.1.2.2.2), S.2.2.2.1, S.2.2.2.2)
def upr (S : PS) (j : Nat) (v : Nat) : PS := (S.1, S.2.1, (S.2.2.1.1, S.2.2.1.2.1, fun i => if i = j then v else spr S i, S.2.2.1.2.2.2), S.2.2.2.1, S.2.2.2.2)
def uhd (S : PS) (j : Nat) (v : Bool) : PS := (S.1, S.2.1, (S.2.2.1.1, S.2.2.1.2.1, S.2.2.1.2.2.1, fun i => if i = j then v else shd S i), S.2.2.2.1, S.2.2.2.2)
def upc (S : PS) (v : Nat) : PS := (S.1, S.2.1, S.2.2.1, (v, S.2.2.2.1.2.1, S.2.2.2.1.2.2.1, S.2.2.2.1.2.2.2.1, S.2.2.2.1.2.2.2.2), S.2.2.2.2)
def upk (S : PS) (j : Nat) (v : Nat) : PS := (S.1, S.2.1, S.2.2.1, (S.2.2.2.1.1, fun i => if i = j then v else spk S i, S.2.2.2.1.2.2.1, S.2.2.2.1.2.2.2.1, S.2.2.2.1.2.2.2.2), S.2.2.2.2)
def uop (S : PS) (j : Nat) (v : Nat) : PS := (S.1, S.2.1, S.2.2.1, (S.2.2.2.1.1, S.2.2.2.1.2.1, fun i => if i = j then v else sop S i, S.2.2.2.1.2.2.2.1, S.2.2.2.1.2.2.2.2), S.2.2.2.2)
def ucd (S : PS) (j : Nat) (v : Nat) : PS := (S.1, S.2.1, S.2.2.1, (S.2.2.2.1.1, S.2.2.2.1.2.1, S.2.2.2.1.2.2.1, fun i => if i = j then v else scd S i, S.2.2.2.1.2.2.2.2), S.2.2.2.2)
def upy (S : PS) (j : Nat) (v : Int64) : PS := (S.1, S.2.1, S.2.2.1, (S.2.2.2.1.1, S.2.2.2.1.2.1, S.2.2.2.1.2.2.1, S.2.2.2.1.2.2.2.1, fun i => if i = j then v else spy S i), S.2.2.2.2)
def ush (S : PS) (j : Nat) (v : Int64) : PS := (S.1, S.2.1, S.2.2.1, S.2.2.2.1, fun i => if i = j then v else ssh S i)
theorem IM_ne {h : AH} {m : Nat} {A : Nat → Nat} {S : PS} (hI : IM h m A S) {a b : Nat} (hab : a ≠ b) : A a ≠ A b := by
  obtain ⟨hm, h0, h1, h2, h3, h5, h6, h7, h8, h11, h12, h13, h15, h16, h17, h18, h20, hinj, hmA⟩ := hI
  exact fun q => hab (hinj _ _ q)
theorem IM_nm {h : AH} {m : Nat} {A : Nat → Nat} {S : PS} (hI : IM h m A S) (a : Nat) : A a ≠ m := by
  obtain ⟨hm, h0, h1, h2, h3, h5, h6, h7, h8, h11, h12, h13, h15, h16, h17, h18, h20, hinj, hmA⟩ := hI
  exact hmA a
theorem IM_ukc {h : AH} {m : Nat} {A : Nat → Nat} {S : PS} (hI : IM h m A S) (v : Nat) : IM (aset h m (6, (mfs A S).set 4 (.int (nI v)))) m A (ukc S v) := by
  obtain ⟨hm, h0, h1, h2, h3, h5, h6, h7, h8, h11, h12, h13, h15, h16, h17, h18, h20, hinj, hmA⟩ := hI
  exact ⟨aset_self _ _ _, (aset_ne (hmA 0)).trans h0, (aset_ne (hmA 1)).trans h1, (aset_ne (hmA 2)).trans h2, (aset_ne (hmA 3)).trans h3, (aset_ne (hmA 5)).trans h5, (aset_ne (hmA 6)).trans h6, (aset_ne (hmA 7)).trans h7, (aset_ne (hmA 8)).trans h8, (aset_ne (hmA 11)).trans h11, (aset_ne (hmA 12)).trans h12, (aset_ne (hmA 13)).trans h13, (aset_ne (hmA 15)).trans h15, (aset_ne (hmA 16)).trans h16, (aset_ne (hmA 17)).trans h17, (aset_ne (hmA 18)).trans h18, (aset_ne (hmA 20)).trans h20, hinj, hmA⟩
theorem IM_uab {h : AH} {m : Nat} {A : Nat → Nat} {S : PS} (hI : IM h m A S) (j : Nat) (v : Nat) : IM (aset h (A 0) (50 + 5, (arv 21 (fun i => .int (nI (sab S i)))).set j (.int (nI (v))))) m A (uab S j v) := by
  have e : (arv 21 (fun i => .int (nI (sab S i)))).set j (.int (nI (v))) = arv 21 (fun i => .int (nI (if i = j then v else sab S i))) := by
    rw [arv_set]
    refine congrArg (arv 21) ?_
    funext i
    by_cases q : i = j <;> simp [q]
  rw [e]
  obtain ⟨hm, h0, h1, h2, h3, h5, h6, h7, h8, h11, h12, h13, h15, h16, h17, h18, h20, hinj, hmA⟩ := hI
  exact ⟨(aset_ne (Ne.symm (hmA 0))).trans hm, aset_self _ _ _, (aset_ne (fun q => absurd (hinj _ _ q) (by decide))).trans h1, (aset_ne (fun q => absurd (hinj _ _ q) (by decide))).trans h2, (aset_ne (fun q => absurd (hinj _ _ q) (by decide))).trans h3, (aset_ne (fun q => absurd (hinj _ _ q) (by decide))).trans h5, (aset_ne (fun q => absurd (hinj _ _ q) (by decide))).trans h6, (aset_ne (fun q => absurd (hinj _ _ q) (by decide))).trans h7, (aset_ne (fun q => absurd (hinj _ _ q) (by decide))).trans h8, (aset_ne (fun q => absurd (hinj _ _ q) (by decide))).trans h11, (aset_ne (fun q => absurd (hinj _ _ q) (by decide))).trans h12, (aset_ne (fun q => absurd (hinj _ _ q) (by decide))).trans h13, (aset_ne (fun q => absurd (hinj _ _ q) (by decide))).trans h15, (aset_ne (fun q => absurd (hinj _ _ q) (by decide))).trans h16, (aset_ne (fun q => absurd (hinj _ _ q) (by decide))).trans h17, (aset_ne (fun q => absurd (hinj _ _ q) (by decide))).trans h18, (aset_ne (fun q => absurd (hinj _ _ q) (by decide))).trans h20, hinj, hmA⟩
theorem IM_ulv {h : AH} {m : Nat} {A : Nat → Nat} {S : PS} (hI : IM h m A S) (j : Nat) (v : Nat) : IM (aset h (A 1) (50 + 5, (arv 21 (fun i => .int (nI (slv S i)))).set j (.int (nI (v))))) m A (ulv S j v) := by
  have e : (arv 21 (fun i => .int (nI (slv S i)))).set j (.int (nI (v))) = arv 21 (fun i => .int (nI (if i = j then v else slv S i))) := by
    rw [arv_set]
    refine congrArg (arv 21) ?_
    funext i
    by_cases q : i = j <;> simp [q]
  rw [e]
  obtain ⟨hm, h0, h1, h2, h3, h5, h6, h7, h8, h11, h12, h13, h15, h16, h17, h18, h20, hinj, hmA⟩ := hI
  exact ⟨(aset_ne (Ne.symm (hmA 1))).trans hm, (aset_ne (fun q => absurd (hinj _ _ q) (by decide))).trans h0, aset_self _ _ _, (aset_ne (fun q => absurd (hinj _ _ q) (by decide))).trans h2, (aset_ne (fun q => absurd (hinj _ _ q) (by decide))).trans h3, (aset_ne (fun q => absurd (hinj _ _ q) (by decide))).trans h5, (aset_ne (fun q => absurd (hinj _ _ q) (by decide))).trans h6, (aset_ne (fun q => absurd (hinj _ _ q) (by decide))).trans h7, (aset_ne (fun q => absurd (hinj _ _ q) (by decide))).trans h8, (aset_ne (fun q => absurd (hinj _ _ q) (by decide))).trans h11, (aset_ne (fun q => absurd (hinj _ _ q) (by decide))).trans h12, (aset_ne (fun q => absurd (hinj _ _ q) (by decide))).trans h13, (aset_ne (fun q => absurd (hinj _ _ q) (by decide))).trans h15, (aset_ne (fun q => absurd (hinj _ _ q) (by decide))).trans h16, (aset_ne (fun q => absurd (hinj _ _ q) (by decide))).trans h17, (aset_ne (fun q => absurd (hinj _ _ q) (by decide))).trans h18, (aset_ne (fun q => absurd (hinj _ _ q) (by decide))).trans h20, hinj, hmA⟩
theorem IM_uru {h : AH} {m : Nat} {A : Nat → Nat} {S : PS} (hI : IM h m A S) (j : Nat) (v : Nat) : IM (aset h (A 2) (50 + 5, (arv 21 (fun i => .int (nI (sru S i)))).set j (.int (nI (v))))) m A (uru S j v) := by
  have e : (arv 21 (fun i => .int (nI (sru S i)))).set j (.int (nI (v))) = arv 21 (fun i => .int (nI (if i = j then v else sru S i))) := by
    rw [arv_set]
    refine congrArg (arv 21) ?_
    funext i
    by_cases q : i = j <;> simp [q]
  rw [e]
  obtain ⟨hm, h0, h1, h2, h3, h5, h6, h7, h8, h11, h12, h13, h15, h16, h17, h18, h20, hinj, hmA⟩ := hI
  exact ⟨(aset_ne (Ne.symm (hmA 2))).trans hm, (aset_ne (fun q => absurd (hinj _ _ q) (by decide))).trans h0, (aset_ne (fun q => absurd (hinj _ _ q) (by decide))).trans h1, aset_self _ _ _, (aset_ne (fun q => absurd (hinj _ _ q) (by decide))).trans h3, (aset_ne (fun q => absurd (hinj _ _ q) (by decide))).trans h5, (aset_ne (fun q => absurd (hinj _ _ q) (by decide))).trans h6, (aset_ne (fun q => absurd (hinj _ _ q) (by decide))).trans h7, (aset_ne (fun q => absurd (hinj _ _ q) (by decide))).trans h8, (aset_ne (fun q => absurd (hinj _ _ q) (by decide))).trans h11, (aset_ne (fun q => absurd (hinj _ _ q) (by decide))).trans h12, (aset_ne (fun q => absurd (hinj _ _ q) (by decide))).trans h13, (aset_ne (fun q => absurd (hinj _ _ q) (by decide))).trans h15, (aset_ne (fun q => absurd (hinj _ _ q) (by decide))).trans h16, (aset_ne (fun q => absurd (hinj _ _ q) (by decide))).trans h17, (aset_ne (fun q => absurd (hinj _ _ q) (by decide))).trans h18, (aset_ne (fun q => absurd (hinj _ _ q) (by decide))).trans h20, hinj, hmA⟩
theorem IM_uun {h : AH} {m : Nat} {A : Nat → Nat} {S : PS} (hI : IM h m A S) (j : Nat) (v : Bool) : IM (aset h (A 3) (50 + 6, (arv 21 (fun i => .int (ob (sun S i)))).set j (.int (ob (v))))) m A (uun S j v) := by
  have e : (arv 21 (fun i => .int (ob (sun S i)))).set j (.int (ob (v))) = arv 21 (fun i => .int (ob (if i = j then v else sun S i))) := by
    rw [arv_set]
    refine congrArg (arv 21) ?_
    funext i
    by_cases q : i = j <;> simp [q]
  rw [e]
  obtain ⟨hm, h0, h1, h2, h3, h5, h6, h7, h8, h11, h12, h13, h15, h16, h17, h18, h20, hinj, hmA⟩ := hI
  exact ⟨(aset_ne (Ne.symm (hmA 3))).trans hm, (aset_ne (fun q => absurd (hinj _ _ q) (by decide))).trans h0, (aset_ne (fun q => absurd (hinj _ _ q) (by decide))).trans h1, (aset_ne (fun q => absurd (hinj _ _ q) (by decide))).trans h2, aset_self _ _ _, (aset_ne (fun q => absurd (hinj _ _ q) (by decide))).trans h5, (aset_ne (fun q => absurd (hinj _ _ q) (by decide))).trans h6, (aset_ne (fun q => absurd (hinj _ _ q) (by decide))).trans h7, (aset_ne (fun q => absurd (hinj _ _ q) (by decide))).trans h8, (aset_ne (fun q => absurd (hinj _ _ q) (by decide))).trans h11, (aset_ne (fun q => absurd (hinj _ _ q) (by decide))).trans h12, (aset_ne (fun q => absurd (hinj _ _ q) (by decide))).trans h13, (aset_ne (fun q => absurd (hinj _ _ q) (by decide))).trans h15, (aset_ne (fun q => absurd (hinj _ _ q) (by decide))).trans h16, (aset_ne (fun q => absurd (hinj _ _ q) (by decide))).trans h17, (aset_ne (fun q => absurd (hinj _ _ q) (by decide))).trans h18, (aset_ne (fun q => absurd (hinj _ _ q) (by decide))).trans h20, hinj, hmA⟩
theorem IM_usz {h : AH} {m : Nat} {A : Nat → Nat} {S : PS} (hI : IM h m A S) (v : Nat) : IM (aset h m (6, (mfs A S).set 9 (.int (nI v)))) m A (usz S v) := by
  obtain ⟨hm, h0, h1, h2, h3, h5, h6, h7, h8, h11, h12, h13, h15, h16, h17, h18, h20, hinj, hmA⟩ := hI
  exact ⟨aset_self _ _ _, (aset_ne (hmA 0)).trans h0, (aset_ne (hmA 1)).trans h1, (aset_ne (hmA 2)).trans h2, (aset_ne (hmA 3)).trans h3, (aset_ne (hmA 5)).trans h5, (aset_ne (hmA 6)).trans h6, (aset_ne (hmA 7)).trans h7, (aset_ne (hmA 8)).trans h8, (aset_ne (hmA 11)).trans h11, (aset_ne (hmA 12)).trans h12, (aset_ne (hmA 13)).trans h13, (aset_ne (hmA 15)).trans h15, (aset_ne (hmA 16)).trans h16, (aset_ne (hmA 17)).trans h17, (aset_ne (hmA 18)).trans h18, (aset_ne (hmA 20)).trans h20, hinj, hmA⟩
theorem IM_und {h : AH} {m : Nat} {A : Nat → Nat} {S : PS} (hI : IM h m A S) (v : Nat) : IM (aset h m (6, (mfs A S).set 10 (.int (nI v)))) m A (und S v) := by
  obtain ⟨hm, h0, h1, h2, h3, h5, h6, h7, h8, h11, h12, h13, h15, h16, h17, h18, h20, hinj, hmA⟩ := hI
  exact ⟨aset_self _ _ _, (aset_ne (hmA 0)).trans h0, (aset_ne (hmA 1)).trans h1, (aset_ne (hmA 2)).trans h2, (aset_ne (hmA 3)).trans h3, (aset_ne (hmA 5)).trans h5, (aset_ne (hmA 6)).trans h6, (aset_ne (hmA 7)).trans h7, (aset_ne (hmA 8)).trans h8, (aset_ne (hmA 11)).trans h11, (aset_ne (hmA 12)).trans h12, (aset_ne (hmA 13)).trans h13, (aset_ne (hmA 15)).trans h15, (aset_ne (hmA 16)).trans h16, (aset_ne (hmA 17)).trans h17, (aset_ne (hmA 18)).trans h18, (aset_ne (hmA 20)).trans h20, hinj, hmA⟩
theorem IM_unm {h : AH} {m : Nat} {A : Nat → Nat} {S : PS} (hI : IM h m A S) (j : Nat) (v : Nat) : IM (aset h (A 5) (50 + 5, (arv 1100 (fun i => .int (nI (snm S i)))).set j (.int (nI (v))))) m A (unm S j v) := by
  have e : (arv 1100 (fun i => .int (nI (snm S i)))).set j (.int (nI (v))) = arv 1100 (fun i => .int (nI (if i = j then v else snm S i))) := by
    rw [arv_set]
    refine congrArg (arv 1100) ?_
    funext i
    by_cases q : i = j <;> simp [q]
  rw [e]
  obtain ⟨hm, h0, h1, h2, h3, h5, h6, h7, h8, h11, h12, h13, h15, h16, h17, h18, h20, hinj, hmA⟩ := hI
  exact ⟨(aset_ne (Ne.symm (hmA 5))).trans hm, (aset_ne (fun q => absurd (hinj _ _ q) (by decide))).trans h0, (aset_ne (fun q => absurd (hinj _ _ q) (by decide))).trans h1, (aset_ne (fun q => absurd (hinj _ _ q) (by decide))).trans h2, (aset_ne (fun q => absurd (hinj _ _ q) (by decide))).trans h3, aset_self _ _ _, (aset_ne (fun q => absurd (hinj _ _ q) (by decide))).trans h6, (aset_ne (fun q => absurd (hinj _ _ q) (by decide))).trans h7, (aset_ne (fun q => absurd (hinj _ _ q) (by decide))).trans h8, (aset_ne (fun q => absurd (hinj _ _ q) (by decide))).trans h11, (aset_ne (fun q => absurd (hinj _ _ q) (by decide))).trans h12, (aset_ne (fun q => absurd (hinj _ _ q) (by decide))).trans h13, (aset_ne (fun q => absurd (hinj _ _ q) (by decide))).trans h15, (aset_ne (fun q => absurd (hinj _ _ q) (by decide))).trans h16, (aset_ne (fun q => absurd (hinj _ _ q) (by decide))).trans h17, (aset_ne (fun q => absurd (hinj _ _ q) (by decide))).trans h18, (aset_ne (fun q => absurd (hinj _ _ q) (by decide))).trans h20, hinj, hmA⟩
theorem IM_uso {h : AH} {m : Nat} {A : Nat → Nat} {S : PS} (hI : IM h m A S) (j : Nat) (v : Nat) : IM (aset h (A 6) (50 + 5, (arv 1100 (fun i => .int (nI (sso S i)))).set j (.int (nI (v))))) m A (uso S j v) := by
  have e : (arv 1100 (fun i => .int (nI (sso S i)))).set j (.int (nI (v))) = arv 1100 (fun i => .int (nI (if i = j then v else sso S i))) := by
    rw [arv_set]
    refine congrArg (arv 1100) ?_
    funext i
    by_cases q : i = j <;> simp [q]
  rw [e]
  obtain ⟨hm, h0, h1, h2, h3, h5, h6, h7, h8, h11, h12, h13, h15, h16, h17, h18, h20, hinj, hmA⟩ := hI
  exact ⟨(aset_ne (Ne.symm (hmA 6))).trans hm, (aset_ne (fun q => absurd (hinj _ _ q) (by decide))).trans h0, (aset_ne (fun q => absurd (hinj _ _ q) (by decide))).trans h1, (aset_ne (fun q => absurd (hinj _ _ q) (by decide))).trans h2, (aset_ne (fun q => absurd (hinj _ _ q) (by decide))).trans h3, (aset_ne (fun q => absurd (hinj _ _ q) (by decide))).trans h5, aset_self _ _ _, (aset_ne (fun q => absurd (hinj _ _ q) (by decide))).trans h7, (aset_ne (fun q => absurd (hinj _ _ q) (by decide))).trans h8, (aset_ne (fun q => absurd (hinj _ _ q) (by decide))).trans h11, (aset_ne (fun q => absurd (hinj _ _ q) (by decide))).trans h12, (aset_ne (fun q => absurd (hinj _ _ q) (by decide))).trans h13, (aset_ne (fun q => absurd (hinj _ _ q) (by decide))).trans h15, (aset_ne (fun q => absurd (hinj _ _ q) (by decide))).trans h16, (aset_ne (fun q => absurd (hinj _ _ q) (by decide))).trans h17, (aset_ne (fun q => absurd (hinj _ _ q) (by decide))).trans h18, (aset_ne (fun q => absurd (hinj _ _ q) (by decide))).trans h20, hinj, hmA⟩
theorem IM_uky {h : AH} {m : Nat} {A : Nat → Nat} {S : PS} (hI : IM h m A S) (j : Nat) (v : Int64) : IM (aset h (A 7) (50 + 4, (arv 1100 (fun i => .long (sky S i))).set j (.long (v)))) m A (uky S j v) := by
  have e : (arv 1100 (fun i => .long (sky S i))).set j (.long (v)) = arv 1100 (fun i => .long (if i = j then v else sky S i)) := by
    rw [arv_set]
    refine congrArg (arv 1100) ?_
    funext i
    by_cases q : i = j <;> simp [q]
  rw [e]
  obtain ⟨hm, h0, h1, h2, h3, h5, h6, h7, h8, h11, h12, h13, h15, h16, h17, h18, h20, hinj, hmA⟩ := hI
  exact ⟨(aset_ne (Ne.symm (hmA 7))).trans hm, (aset_ne (fun q => absurd (hinj _ _ q) (by decide))).trans h0, (aset_ne (fun q => absurd (hinj _ _ q) (by decide))).trans h1, (aset_ne (fun q => absurd (hinj _ _ q) (by decide))).trans h2, (aset_ne (fun q => absurd (hinj _ _ q) (by decide))).trans h3, (aset_ne (fun q => absurd (hinj _ _ q) (by decide))).trans h5, (aset_ne (fun q => absurd (hinj _ _ q) (by decide))).trans h6, aset_self _ _ _, (aset_ne (fun q => absurd (hinj _ _ q) (by decide))).trans h8, (aset_ne (fun q => absurd (hinj _ _ q) (by decide))).trans h11, (aset_ne (fun q => absurd (hinj _ _ q) (by decide))).trans h12, (aset_ne (fun q => absurd (hinj _ _ q) (by decide))).trans h13, (aset_ne (fun q => absurd (hinj _ _ q) (by decide))).trans h15, (aset_ne (fun q => absurd (hinj _ _ q) (by decide))).trans h16, (aset_ne (fun q => absurd (hinj _ _ q) (by decide))).trans h17, (aset_ne (fun q => absurd (hinj _ _ q) (by decide))).trans h18, (aset_ne (fun q => absurd (hinj _ _ q) (by decide))).trans h20, hinj, hmA⟩
theorem IM_uvl {h : AH} {m : Nat} {A : Nat → Nat} {S : PS} (hI : IM h m A S) (j : Nat) (v : Int64) : IM (aset h (A 8) (50 + 4, (arv 1100 (fun i => .long (svl S i))).set j (.long (v)))) m A (uvl S j v) := by
  have e : (arv 1100 (fun i => .long (svl S i))).set j (.long (v)) = arv 1100 (fun i => .long (if i = j then v else svl S i)) := by
    rw [arv_set]
    refine congrArg (arv 1100) ?_
    funext i
    by_cases q : i = j <;> simp [q]
  rw [e]
  obtain ⟨hm, h0, h1, h2, h3, h5, h6, h7, h8, h11, h12, h13, h15, h16, h17, h18, h20, hinj, hmA⟩ := hI
  exact ⟨(aset_ne (Ne.symm (hmA 8))).trans hm, (aset_ne (fun q => absurd (hinj _ _ q) (by decide))).trans h0, (aset_ne (fun q => absurd (hinj _ _ q) (by decide))).trans h1, (aset_ne (fun q => absurd (hinj _ _ q) (by decide))).trans h2, (aset_ne (fun q => absurd (hinj _ _ q) (by decide))).trans h3, (aset_ne (fun q => absurd (hinj _ _ q) (by decide))).trans h5, (aset_ne (fun q => absurd (hinj _ _ q) (by decide))).trans h6, (aset_ne (fun q => absurd (hinj _ _ q) (by decide))).trans h7, aset_self _ _ _, (aset_ne (fun q => absurd (hinj _ _ q) (by decide))).trans h11, (aset_ne (fun q => absurd (hinj _ _ q) (by decide))).trans h12, (aset_ne (fun q => absurd (hinj _ _ q) (by decide))).trans h13, (aset_ne (fun q => absurd (hinj _ _ q) (by decide))).trans h15, (aset_ne (fun q => absurd (hinj _ _ q) (by decide))).trans h16, (aset_ne (fun q => absurd (hinj _ _ q) (by decide))).trans h17, (aset_ne (fun q => absurd (hinj _ _ q) (by decide))).trans h18, (aset_ne (fun q => absurd (hinj _ _ q) (by decide))).trans h20, hinj, hmA⟩
theorem IM_uvc {h : AH} {m : Nat} {A : Nat → Nat} {S : PS} (hI : IM h m A S) (v : Nat) : IM (aset h m (6, (mfs A S).set 14 (.int (nI v)))) m A (uvc S v) := by
  obtain ⟨hm, h0, h1, h2, h3, h5, h6, h7, h8, h11, h12, h13, h15, h16, h17, h18, h20, hinj, hmA⟩ := hI
  exact ⟨aset_self _ _ _, (aset_ne (hmA 0)).trans h0, (aset_ne (hmA 1)).trans h1, (aset_ne (hmA 2)).trans h2, (aset_ne (hmA 3)).trans h3, (aset_ne (hmA 5)).trans h5, (aset_ne (hmA 6)).trans h6, (aset_ne (hmA 7)).trans h7, (aset_ne (hmA 8)).trans h8, (aset_ne (hmA 11)).trans h11, (aset_ne (hmA 12)).trans h12, (aset_ne (hmA 13)).trans h13, (aset_ne (hmA 15)).trans h15, (aset_ne (hmA 16)).trans h16, (aset_ne (hmA 17)).trans h17, (aset_ne (hmA 18)).trans h18, (aset_ne (hmA 20)).trans h20, hinj, hmA⟩
theorem IM_upo {h : AH} {m : Nat} {A : Nat → Nat} {S : PS} (hI : IM h m A S) (j : Nat) (v : Nat) : IM (aset h (A 11) (50 + 5, (arv 10 (fun i => .int (nI (spo S i)))).set j (.int (nI (v))))) m A (upo S j v) := by
  have e : (arv 10 (fun i => .int (nI (spo S i)))).set j (.int (nI (v))) = arv 10 (fun i => .int (nI (if i = j then v else spo S i))) := by
    rw [arv_set]
    refine congrArg (arv 10) ?_
    funext i
    by_cases q : i = j <;> simp [q]
  rw [e]
  obtain ⟨hm, h0, h1, h2, h3, h5, h6, h7, h8, h11, h12, h13, h15, h16, h17, h18, h20, hinj, hmA⟩ := hI
  exact ⟨(aset_ne (Ne.symm (hmA 11))).trans hm, (aset_ne (fun q => absurd (hinj _ _ q) (by decide))).trans h0, (aset_ne (fun q => absurd (hinj _ _ q) (by decide))).trans h1, (aset_ne (fun q => absurd (hinj _ _ q) (by decide))).trans h2, (aset_ne (fun q => absurd (hinj _ _ q) (by decide))).trans h3, (aset_ne (fun q => absurd (hinj _ _ q) (by decide))).trans h5, (aset_ne (fun q => absurd (hinj _ _ q) (by decide))).trans h6, (aset_ne (fun q => absurd (hinj _ _ q) (by decide))).trans h7, (aset_ne (fun q => absurd (hinj _ _ q) (by decide))).trans h8, aset_self _ _ _, (aset_ne (fun q => absurd (hinj _ _ q) (by decide))).trans h12, (aset_ne (fun q => absurd (hinj _ _ q) (by decide))).trans h13, (aset_ne (fun q => absurd (hinj _ _ q) (by decide))).trans h15, (aset_ne (fun q => absurd (hinj _ _ q) (by decide))).trans h16, (aset_ne (fun q => absurd (hinj _ _ q) (by decide))).trans h17, (aset_ne (fun q => absurd (hinj _ _ q) (by decide))).trans h18, (aset_ne (fun q => absurd (hinj _ _ q) (by decide))).trans h20, hinj, hmA⟩
theorem IM_upr {h : AH} {m : Nat} {A : Nat → Nat} {S : PS} (hI : IM h m A S) (j : Nat) (v : Nat) : IM (aset h (A 12) (50 + 5, (arv 10 (fun i => .int (nI (spr S i)))).set j (.int (nI (v))))) m A (upr S j v) := by
  have e : (arv 10 (fun i => .int (nI (spr S i)))).set j (.int (nI (v))) = arv 10 (fun i => .int (nI (if i = j then v else spr S i))) := by
    rw [arv_set]
    refine congrArg (arv 10) ?_
    funext i
    by_cases q : i = j <;> simp [q]
  rw [e]
  obtain ⟨hm, h0, h1, h2, h3, h5, h6, h7, h8, h11, h12, h13, h15, h16, h17, h18, h20, hinj, hmA⟩ := hI
  exact ⟨(aset_ne (Ne.symm (hmA 12))).trans hm, (aset_ne (fun q => absurd (hinj _ _ q) (by decide))).trans h0, (aset_ne (fun q => absurd (hinj _ _ q) (by decide))).trans h1, (aset_ne (fun q => absurd (hinj _ _ q) (by decide))).trans h2, (aset_ne (fun q => absurd (hinj _ _ q) (by decide))).trans h3, (aset_ne (fun q => absurd (hinj _ _ q) (by decide))).trans h5, (aset_ne (fun q => absurd (hinj _ _ q) (by decide))).trans h6, (aset_ne (fun q => absurd (hinj _ _ q) (by decide))).trans h7, (aset_ne (fun q => absurd (hinj _ _ q) (by decide))).trans h8, (aset_ne (fun q => absurd (hinj _ _ q) (by decide))).trans h11, aset_self _ _ _, (aset_ne (fun q => absurd (hinj _ _ q) (by decide))).trans h13, (aset_ne (fun q => absurd (hinj _ _ q) (by decide))).trans h15, (aset_ne (fun q => absurd (hinj _ _ q) (by decide))).trans h16, (aset_ne (fun q => absurd (hinj _ _ q) (by decide))).trans h17, (aset_ne (fun q => absurd (hinj _ _ q) (by decide))).trans h18, (aset_ne (fun q => absurd (hinj _ _ q) (by decide))).trans h20, hinj, hmA⟩
theorem IM_uhd {h : AH} {m : Nat} {A : Nat → Nat} {S : PS} (hI : IM h m A S) (j : Nat) (v : Bool) : IM (aset h (A 13) (50 + 6, (arv 10 (fun i => .int (ob (shd S i)))).set j (.int (ob (v))))) m A (uhd S j v) := by
  have e : (arv 10 (fun i => .int (ob (shd S i)))).set j (.int (ob (v))) = arv 10 (fun i => .int (ob (if i = j then v else shd S i))) := by
    rw [arv_set]
    refine congrArg (arv 10) ?_
    funext i
    by_cases q : i = j <;> simp [q]
  rw [e]
  obtain ⟨hm, h0, h1, h2, h3, h5, h6, h7, h8, h11, h12, h13, h15, h16, h17, h18, h20, hinj, hmA⟩ := hI
  exact ⟨(aset_ne (Ne.symm (hmA 13))).trans hm, (aset_ne (fun q => absurd (hinj _ _ q) (by decide))).trans h0, (aset_ne (fun q => absurd (hinj _ _ q) (by decide))).trans h1, (aset_ne (fun q => absurd (hinj _ _ q) (by decide))).trans h2, (aset_ne (fun q => absurd (hinj _ _ q) (by decide))).trans h3, (aset_ne (fun q => absurd (hinj _ _ q) (by decide))).trans h5, (aset_ne (fun q => absurd (hinj _ _ q) (by decide))).trans h6, (aset_ne (fun q => absurd (hinj _ _ q) (by decide))).trans h7, (aset_ne (fun q => absurd (hinj _ _ q) (by decide))).trans h8, (aset_ne (fun q => absurd (hinj _ _ q) (by decide))).trans h11, (aset_ne (fun q => absurd (hinj _ _ q) (by decide))).trans h12, aset_self _ _ _, (aset_ne (fun q => absurd (hinj _ _ q) (by decide))).trans h15, (aset_ne (fun q => absurd (hinj _ _ q) (by decide))).trans h16, (aset_ne (fun q => absurd (hinj _ _ q) (by decide))).trans h17, (aset_ne (fun q => absurd (hinj _ _ q) (by decide))).trans h18, (aset_ne (fun q => absurd (hinj _ _ q) (by decide))).trans h20, hinj, hmA⟩
theorem IM_upc {h : AH} {m : Nat} {A : Nat → Nat} {S : PS} (hI : IM h m A S) (v : Nat) : IM (aset h m (6, (mfs A S).set 19 (.int (nI v)))) m A (upc S v) := by
  obtain ⟨hm, h0, h1, h2, h3, h5, h6, h7, h8, h11, h12, h13, h15, h16, h17, h18, h20, hinj, hmA⟩ := hI
  exact ⟨aset_self _ _ _, (aset_ne (hmA 0)).trans h0, (aset_ne (hmA 1)).trans h1, (aset_ne (hmA 2)).trans h2, (aset_ne (hmA 3)).trans h3, (aset_ne (hmA 5)).trans h5, (aset_ne (hmA 6)).trans h6, (aset_ne (hmA 7)).trans h7, (aset_ne (hmA 8)).trans h8, (aset_ne (hmA 11)).trans h11, (aset_ne (hmA 12)).trans h12, (aset_ne (hmA 13)).trans h13, (aset_ne (hmA 15)).trans h15, (aset_ne (hmA 16)).trans h16, (aset_ne (hmA 17)).trans h17, (aset_ne (hmA 18)).trans h18, (aset_ne (hmA 20)).trans h20, hinj, hmA⟩
theorem IM_upk {h : AH} {m : Nat} {A : Nat → Nat} {S : PS} (hI : IM h m A S) (j : Nat) (v : Nat) : IM (aset h (A 15) (50 + 5, (arv 8 (fun i => .int (nI (spk S i)))).set j (.int (nI (v))))) m A (upk S j v) := by
  have e : (arv 8 (fun i => .int (nI (spk S i)))).set j (.int (nI (v))) = arv 8 (fun i => .int (nI (if i = j then v else spk S i))) := by
    rw [arv_set]
    refine congrArg (arv 8) ?_
    funext i
    by_cases q : i = j <;> simp [q]
  rw [e]
  obtain ⟨hm, h0, h1, h2, h3, h5, h6, h7, h8, h11, h12, h13, h15, h16, h17, h18, h20, hinj, hmA⟩ := hI
  exact ⟨(aset_ne (Ne.symm (hmA 15))).trans hm, (aset_ne (fun q => absurd (hinj _ _ q) (by decide))).trans h0, (aset_ne (fun q => absurd (hinj _ _ q) (by decide))).trans h1, (aset_ne (fun q => absurd (hinj _ _ q) (by decide))).trans h2, (aset_ne (fun q => absurd (hinj _ _ q) (by decide))).trans h3, (aset_ne (fun q => absurd (hinj _ _ q) (by decide))).trans h5, (aset_ne (fun q => absurd (hinj _ _ q) (by decide))).trans h6, (aset_ne (fun q => absurd (hinj _ _ q) (by decide))).trans h7, (aset_ne (fun q => absurd (hinj _ _ q) (by decide))).trans h8, (aset_ne (fun q => absurd (hinj _ _ q) (by decide))).trans h11, (aset_ne (fun q => absurd (hinj _ _ q) (by decide))).trans h12, (aset_ne (fun q => absurd (hinj _ _ q) (by decide))).trans h13, aset_self _ _ _, (aset_ne (fun q => absurd (hinj _ _ q) (by decide))).trans h16, (aset_ne (fun q => absurd (hinj _ _ q) (by decide))).trans h17, (aset_ne (fun q => absurd (hinj _ _ q) (by decide))).trans h18, (aset_ne (fun q => absurd (hinj _ _ q) (by decide))).trans h20, hinj, hmA⟩
theorem IM_uop {h : AH} {m : Nat} {A : Nat → Nat} {S : PS} (hI : IM h m A S) (j : Nat) (v : Nat) : IM (aset h (A 16) (50 + 5, (arv 8 (fun i => .int (nI (sop S i)))).set j (.int (nI (v))))) m A (uop S j v) := by
  have e : (arv 8 (fun i => .int (nI (sop S i)))).set j (.int (nI (v))) = arv 8 (fun i => .int (nI (if i = j then v else sop S i))) := by
    rw [arv_set]
    refine congrArg (arv 8) ?_
    funext i
    by_cases q : i = j <;> simp [q]
  rw [e]
  obtain ⟨hm, h0, h1, h2, h3, h5, h6, h7, h8, h11, h12, h13, h15, h16, h17, h18, h20, hinj, hmA⟩ := hI
  exact ⟨(aset_ne (Ne.symm (hmA 16))).trans hm, (aset_ne (fun q => absurd (hinj _ _ q) (by decide))).trans h0, (aset_ne (fun q => absurd (hinj _ _ q) (by decide))).trans h1, (aset_ne (fun q => absurd (hinj _ _ q) (by decide))).trans h2, (aset_ne (fun q => absurd (hinj _ _ q) (by decide))).trans h3, (aset_ne (fun q => absurd (hinj _ _ q) (by decide))).trans h5, (aset_ne (fun q => absurd (hinj _ _ q) (by decide))).trans h6, (aset_ne (fun q => absurd (hinj _ _ q) (by decide))).trans h7, (aset_ne (fun q => absurd (hinj _ _ q) (by decide))).trans h8, (aset_ne (fun q => absurd (hinj _ _ q) (by decide))).trans h11, (aset_ne (fun q => absurd (hinj _ _ q) (by decide))).trans h12, (aset_ne (fun q => absurd (hinj _ _ q) (by decide))).trans h13, (aset_ne (fun q => absurd (hinj _ _ q) (by decide))).trans h15, aset_self _ _ _, (aset_ne (fun q => absurd (hinj _ _ q) (by decide))).trans h17, (aset_ne (fun q => absurd (hinj _ _ q) (by decide))).trans h18, (aset_ne (fun q => absurd (hinj _ _ q) (by decide))).trans h20, hinj, hmA⟩
theorem IM_ucd {h : AH} {m : Nat} {A : Nat → Nat} {S : PS} (hI : IM h m A S) (j : Nat) (v : Nat) : IM (aset h (A 17) (50 + 5, (arv 8 (fun i => .int (nI (scd S i)))).set j (.int (nI (v))))) m A (ucd S j v) := by
  have e : (arv 8 (fun i => .int (nI (scd S i)))).set j (.int (nI (v))) = arv 8 (fun i => .int (nI (if i = j then v else scd S i))) := by
    rw [arv_set]
    refine congrArg (arv 8) ?_
    funext i
    by_cases q : i = j <;> simp [q]
  rw [e]
  obtain ⟨hm, h0, h1, h2, h3, h5, h6, h7, h8, h11, h12, h13, h15, h16, h17, h18, h20, hinj, hmA⟩ := hI
  exact ⟨(aset_ne (Ne.symm (hmA 17))).trans hm, (aset_ne (fun q => absurd (hinj _ _ q) (by decide))).trans h0, (aset_ne (fun q => absurd (hinj _ _ q) (by decide))).trans h1, (aset_ne (fun q => absurd (hinj _ _ q) (by decide))).trans h2, (aset_ne (fun q => absurd (hinj _ _ q) (by decide))).trans h3, (aset_ne (fun q => absurd (hinj _ _ q) (by decide))).trans h5, (aset_ne (fun q => absurd (hinj _ _ q) (by decide))).trans h6, (aset_ne (fun q => absurd (hinj _ _ q) (by decide))).trans h7, (aset_ne (fun q => absurd (hinj _ _ q) (by decide))).trans h8, (aset_ne (fun q => absurd (hinj _ _ q) (by decide))).trans h11, (aset_ne (fun q => absurd (hinj _ _ q) (by decide))).trans h12, (aset_ne (fun q => absurd (hinj _ _ q) (by decide))).trans h13, (aset_ne (fun q => absurd (hinj _ _ q) (by decide))).trans h15, (aset_ne (fun q => absurd (hinj _ _ q) (by decide))).trans h16, aset_self _ _ _, (aset_ne (fun q => absurd (hinj _ _ q) (by decide))).trans h18, (aset_ne (fun q => absurd (hinj _ _ q) (by decide))).trans h20, hinj, hmA⟩
theorem IM_upy {h : AH} {m : Nat} {A : Nat → Nat} {S : PS} (hI : IM h m A S) (j : Nat) (v : Int64) : IM (aset h (A 18) (50 + 4, (arv 8 (fun i => .long (spy S i))).set j (.long (v)))) m A (upy S j v) := by
  have e : (arv 8 (fun i => .long (spy S i))).set j (.long (v)) = arv 8 (fun i => .long (if i = j then v else spy S i)) := by
    rw [arv_set]
    refine congrArg (arv 8) ?_
    funext i
    by_cases q : i = j <;> simp [q]
  rw [e]
  obtain ⟨hm, h0, h1, h2, h3, h5, h6, h7, h8, h11, h12, h13, h15, h16, h17, h18, h20, hinj, hmA⟩ := hI
  exact ⟨(aset_ne (Ne.symm (hmA 18))).trans hm, (aset_ne (fun q => absurd (hinj _ _ q) (by decide))).trans h0, (aset_ne (fun q => absurd (hinj _ _ q) (by decide))).trans h1, (aset_ne (fun q => absurd (hinj _ _ q) (by decide))).trans h2, (aset_ne (fun q => absurd (hinj _ _ q) (by decide))).trans h3, (aset_ne (fun q => absurd (hinj _ _ q) (by decide))).trans h5, (aset_ne (fun q => absurd (hinj _ _ q) (by decide))).trans h6, (aset_ne (fun q => absurd (hinj _ _ q) (by decide))).trans h7, (aset_ne (fun q => absurd (hinj _ _ q) (by decide))).trans h8, (aset_ne (fun q => absurd (hinj _ _ q) (by decide))).trans h11, (aset_ne (fun q => absurd (hinj _ _ q) (by decide))).trans h12, (aset_ne (fun q => absurd (hinj _ _ q) (by decide))).trans h13, (aset_ne (fun q => absurd (hinj _ _ q) (by decide))).trans h15, (aset_ne (fun q => absurd (hinj _ _ q) (by decide))).trans h16, (aset_ne (fun q => absurd (hinj _ _ q) (by decide))).trans h17, aset_self _ _ _, (aset_ne (fun q => absurd (hinj _ _ q) (by decide))).trans h20, hinj, hmA⟩
theorem IM_ush {h : AH} {m : Nat} {A : Nat → Nat} {S : PS} (hI : IM h m A S) (j : Nat) (v : Int64) : IM (aset h (A 20) (50 + 4, (arv 9 (fun i => .long (ssh S i))).set j (.long (v)))) m A (ush S j v) := by
  have e : (arv 9 (fun i => .long (ssh S i))).set j (.long (v)) = arv 9 (fun i => .long (if i = j then v else ssh S i)) := by
    rw [arv_set]
    refine congrArg (arv 9) ?_
    funext i
    by_cases q : i = j <;> simp [q]
  rw [e]
  obtain ⟨hm, h0, h1, h2, h3, h5, h6, h7, h8, h11, h12, h13, h15, h16, h17, h18, h20, hinj, hmA⟩ := hI
  exact ⟨(aset_ne (Ne.symm (hmA 20))).trans hm, (aset_ne (fun q => absurd (hinj _ _ q) (by decide))).trans h0, (aset_ne (fun q => absurd (hinj _ _ q) (by decide))).trans h1, (aset_ne (fun q => absurd (hinj _ _ q) (by decide))).trans h2, (aset_ne (fun q => absurd (hinj _ _ q) (by decide))).trans h3, (aset_ne (fun q => absurd (hinj _ _ q) (by decide))).trans h5, (aset_ne (fun q => absurd (hinj _ _ q) (by decide))).trans h6, (aset_ne (fun q => absurd (hinj _ _ q) (by decide))).trans h7, (aset_ne (fun q => absurd (hinj _ _ q) (by decide))).trans h8, (aset_ne (fun q => absurd (hinj _ _ q) (by decide))).trans h11, (aset_ne (fun q => absurd (hinj _ _ q) (by decide))).trans h12, (aset_ne (fun q => absurd (hinj _ _ q) (by decide))).trans h13, (aset_ne (fun q => absurd (hinj _ _ q) (by decide))).trans h15, (aset_ne (fun q => absurd (hinj _ _ q) (by decide))).trans h16, (aset_ne (fun q => absurd (hinj _ _ q) (by decide))).trans h17, (aset_ne (fun q => absurd (hinj _ _ q) (by decide))).trans h18, aset_self _ _ _, hinj, hmA⟩
/-- what the reference leaves alone -/
def FrM (h h2 : AH) (m : Nat) (A : Nat → Nat) : Prop := h2.1 = h.1 ∧ ∀ q, q ≠ m → (∀ i, q ≠ A i) → h2.2 q = h.2 q
theorem FrM_rf {h : AH} {m : Nat} {A : Nat → Nat} : FrM h h m A := ⟨rfl, fun _ _ _ => rfl⟩
theorem FrM_m {h h2 : AH} {m : Nat} {A : Nat → Nat} {c : AC} (hf : FrM h h2 m A) : FrM h (aset h2 m c) m A := ⟨hf.1, fun q h1 h3 => (aset_ne h1).trans (hf.2 q h1 h3)⟩
theorem FrM_a {h h2 : AH} {m : Nat} {A : Nat → Nat} {c : AC} (i : Nat) (hf : FrM h h2 m A) : FrM h (aset h2 (A i) c) m A := ⟨hf.1, fun q h1 h3 => (aset_ne (h3 i)).trans (hf.2 q h1 h3)⟩
theorem FrM_t {h h2 h3 : AH} {m : Nat} {A : Nat → Nat} (h1 : FrM h h2 m A) (h4 : FrM h2 h3 m A) : FrM h h3 m A := ⟨h4.1.trans h1.1, fun q a b => (h4.2 q a b).trans (h1.2 q a b)⟩
def IF (h0 h : AH) (m : Nat) (A : Nat → Nat) (S : PS) : Prop := IM h m A S ∧ FrM h0 h m A
theorem IF_ukc {h0 h : AH} {m : Nat} {A : Nat → Nat} {S : PS} (hI : IF h0 h m A S) (v : Nat) : IF h0 (aset h m (6, (mfs A S).set 4 (.int (nI v)))) m A (ukc S v) := ⟨IM_ukc hI.1 v, FrM_m hI.2⟩
theorem IF_uab {h0 h : AH} {m : Nat} {A : Nat → Nat} {S : PS} (hI : IF h0 h m A S) (j : Nat) (v : Nat) : IF h0 (aset h (A 0) (50 + 5, (arv 21 (fun i => .int (nI (sab S i)))).set j (.int (nI (v))))) m A (uab S j v) := ⟨IM_uab hI.1 j v, FrM_a 0 hI.2⟩
theorem IF_ulv {h0 h : AH} {m : Nat} {A : Nat → Nat} {S : PS} (hI : IF h0 h m A S) (j : Nat) (v : Nat) : IF h0 (aset h (A 1) (50 + 5, (arv 21 (fun i => .int (nI (slv S i)))).set j (.int (nI (v))))) m A (ulv S j v) := ⟨IM_ulv hI.1 j v, FrM_a 1 hI.2⟩
theorem IF_uru {h0 h : AH} {m : Nat} {A : Nat → Nat} {S : PS} (hI : IF h0 h m A S) (j : Nat) (v : Nat) : IF h0 (aset h (A 2) (50 + 5, (arv 21 (fun i => .int (nI (sru S i)))).set j (.int (nI (v))))) m A (uru S j v) := ⟨IM_uru hI.1 j v, FrM_a 2 hI.2⟩
theorem IF_uun {h0 h : AH} {m : Nat} {A : Nat → Nat} {S : PS} (hI : IF h0 h m A S) (j : Nat) (v : Bool) : IF h0 (aset h (A 3) (50 + 6, (arv 21 (fun i => .int (ob (sun S i)))).set j (.int (ob (v))))) m A (uun S j v) := ⟨IM_uun hI.1 j v, FrM_a 3 hI.2⟩
theorem IF_usz {h0 h : AH} {m : Nat} {A : Nat → Nat} {S : PS} (hI : IF h0 h m A S) (v : Nat) : IF h0 (aset h m (6, (mfs A S).set 9 (.int (nI v)))) m A (usz S v) := ⟨IM_usz hI.1 v, FrM_m hI.2⟩
theorem IF_und {h0 h : AH} {m : Nat} {A : Nat → Nat} {S : PS} (hI : IF h0 h m A S) (v : Nat) : IF h0 (aset h m (6, (mfs A S).set 10 (.int (nI v)))) m A (und S v) := ⟨IM_und hI.1 v, FrM_m hI.2⟩
theorem IF_unm {h0 h : AH} {m : Nat} {A : Nat → Nat} {S : PS} (hI : IF h0 h m A S) (j : Nat) (v : Nat) : IF h0 (aset h (A 5) (50 + 5, (arv 1100 (fun i => .int (nI (snm S i)))).set j (.int (nI (v))))) m A (unm S j v) := ⟨IM_unm hI.1 j v, FrM_a 5 hI.2⟩
theorem IF_uso {h0 h : AH} {m : Nat} {A : Nat → Nat} {S : PS} (hI : IF h0 h m A S) (j : Nat) (v : Nat) : IF h0 (aset h (A 6) (50 + 5, (arv 1100 (fun i => .int (nI (sso S i)))).set j (.int (nI (v))))) m A (uso S j v) := ⟨IM_uso hI.1 j v, FrM_a 6 hI.2⟩
theorem IF_uky {h0 h : AH} {m : Nat} {A : Nat → Nat} {S : PS} (hI : IF h0 h m A S) (j : Nat) (v : Int64) : IF h0 (aset h (A 7) (50 + 4, (arv 1100 (fun i => .long (sky S i))).set j (.long (v)))) m A (uky S j v) := ⟨IM_uky hI.1 j v, FrM_a 7 hI.2⟩
theorem IF_uvl {h0 h : AH} {m : Nat} {A : Nat → Nat} {S : PS} (hI : IF h0 h m A S) (j : Nat) (v : Int64) : IF h0 (aset h (A 8) (50 + 4, (arv 1100 (fun i => .long (svl S i))).set j (.long (v)))) m A (uvl S j v) := ⟨IM_uvl hI.1 j v, FrM_a 8 hI.2⟩
theorem IF_uvc {h0 h : AH} {m : Nat} {A : Nat → Nat} {S : PS} (hI : IF h0 h m A S) (v : Nat) : IF h0 (aset h m (6, (mfs A S).set 14 (.int (nI v)))) m A (uvc S v) := ⟨IM_uvc hI.1 v, FrM_m hI.2⟩
theorem IF_upo {h0 h : AH} {m : Nat} {A : Nat → Nat} {S : PS} (hI : IF h0 h m A S) (j : Nat) (v : Nat) : IF h0 (aset h (A 11) (50 + 5, (arv 10 (fun i => .int (nI (spo S i)))).set j (.int (nI (v))))) m A (upo S j v) := ⟨IM_upo hI.1 j v, FrM_a 11 hI.2⟩
theorem IF_upr {h0 h : AH} {m : Nat} {A : Nat → Nat} {S : PS} (hI : IF h0 h m A S) (j : Nat) (v : Nat) : IF h0 (aset h (A 12) (50 + 5, (arv 10 (fun i => .int (nI (spr S i)))).set j (.int (nI (v))))) m A (upr S j v) := ⟨IM_upr hI.1 j v, FrM_a 12 hI.2⟩
theorem IF_uhd {h0 h : AH} {m : Nat} {A : Nat → Nat} {S : PS} (hI : IF h0 h m A S) (j : Nat) (v : Bool) : IF h0 (aset h (A 13) (50 + 6, (arv 10 (fun i => .int (ob (shd S i)))).set j (.int (ob (v))))) m A (uhd S j v) := ⟨IM_uhd hI.1 j v, FrM_a 13 hI.2⟩
theorem IF_upc {h0 h : AH} {m : Nat} {A : Nat → Nat} {S : PS} (hI : IF h0 h m A S) (v : Nat) : IF h0 (aset h m (6, (mfs A S).set 19 (.int (nI v)))) m A (upc S v) := ⟨IM_upc hI.1 v, FrM_m hI.2⟩
theorem IF_upk {h0 h : AH} {m : Nat} {A : Nat → Nat} {S : PS} (hI : IF h0 h m A S) (j : Nat) (v : Nat) : IF h0 (aset h (A 15) (50 + 5, (arv 8 (fun i => .int (nI (spk S i)))).set j (.int (nI (v))))) m A (upk S j v) := ⟨IM_upk hI.1 j v, FrM_a 15 hI.2⟩
theorem IF_uop {h0 h : AH} {m : Nat} {A : Nat → Nat} {S : PS} (hI : IF h0 h m A S) (j : Nat) (v : Nat) : IF h0 (aset h (A 16) (50 + 5, (arv 8 (fun i => .int (nI (sop S i)))).set j (.int (nI (v))))) m A (uop S j v) := ⟨IM_uop hI.1 j v, FrM_a 16 hI.2⟩
theorem IF_ucd {h0 h : AH} {m : Nat} {A : Nat → Nat} {S : PS} (hI : IF h0 h m A S) (j : Nat) (v : Nat) : IF h0 (aset h (A 17) (50 + 5, (arv 8 (fun i => .int (nI (scd S i)))).set j (.int (nI (v))))) m A (ucd S j v) := ⟨IM_ucd hI.1 j v, FrM_a 17 hI.2⟩
theorem IF_upy {h0 h : AH} {m : Nat} {A : Nat → Nat} {S : PS} (hI : IF h0 h m A S) (j : Nat) (v : Int64) : IF h0 (aset h (A 18) (50 + 4, (arv 8 (fun i => .long (spy S i))).set j (.long (v)))) m A (upy S j v) := ⟨IM_upy hI.1 j v, FrM_a 18 hI.2⟩
theorem IF_ush {h0 h : AH} {m : Nat} {A : Nat → Nat} {S : PS} (hI : IF h0 h m A S) (j : Nat) (v : Int64) : IF h0 (aset h (A 20) (50 + 4, (arv 9 (fun i => .long (ssh S i))).set j (.long (v)))) m A (ush S j v) := ⟨IM_ush hI.1 j v, FrM_a 20 hI.2⟩
/-- a number from the script that is one of 1 .. n -/
def ki (n : Nat) (k : Int32) : Option Nat := if 0 < k ∧ k ≤ nI n then some k.toNatClampNeg else none
theorem ki_some {n : Nat} {k : Int32} {j : Nat} (hn : n < 2 ^ 31) (h : ki n k = some j) : k = nI j ∧ 1 ≤ j ∧ j ≤ n := by
  unfold ki at h
  split at h
  · rename_i c
    obtain ⟨i, h1, h2⟩ := nI_of (x := k) (fun q => absurd q (Int32.not_lt.mpr (Int32.le_of_lt c.1)))
    subst h2
    rw [nI_clamp h1] at h
    cases h
    refine ⟨rfl, ?_, (nI_leI h1 hn).mp c.2⟩
    rcases Nat.lt_or_ge 0 j with q | q
    · exact q
    · have e : j = 0 := by omega
      subst e
      exact absurd c.1 (by decide)
  · cases h
theorem ki_mk {n j : Nat} (hn : n < 2 ^ 31) (h1 : 1 ≤ j) (h2 : j ≤ n) : ki n (nI j) = some j := by
  unfold ki
  have h0 : (0 : Int32) < nI j := nI_lt (a := 0) (b := j) (by omega) (by omega)
  rw [if_pos ⟨h0, nI_le h2 hn⟩, nI_clamp (by omega)]
theorem ki_none {n : Nat} {k : Int32} : ki n k = none ↔ ¬ (0 < k ∧ k ≤ nI n) := by
  unfold ki
  split
  · rename_i c
    exact ⟨fun q => (by cases q), fun q => absurd c q⟩
  · rename_i c
    exact ⟨fun _ => c, fun _ => rfl⟩
theorem lt_one {k : Int32} : k < 1 ↔ ¬ 0 < k := by
  rw [Int32.lt_iff_toInt_lt, Int32.lt_iff_toInt_lt, show (1 : Int32).toInt = 1 from rfl, show (0 : Int32).toInt = 0 from rfl]
  omega
theorem ki_dec {n : Nat} {k : Int32} : decide (0 < k ∧ k ≤ nI n) = (ki n k).isSome := by
  unfold ki
  split
  · rename_i c; rw [decide_eq_true c]; rfl
  · rename_i c; rw [decide_eq_false c]; rfl
