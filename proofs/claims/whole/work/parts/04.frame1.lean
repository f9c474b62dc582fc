-- the frame: an abstract heap, a judgement V over it, one rule an instruction
abbrev AC : Type := Nat × List Value
abbrev AH : Type := Nat × (Nat → Option AC)
def aset (h : AH) (q : Nat) (c : AC) : AH := (h.1, fun j => if j = q then some c else h.2 j)
def apush (h : AH) (c : AC) : AH := (h.1 + 1, fun j => if j = h.1 then some c else h.2 j)
theorem aset_self (h : AH) (q : Nat) (c : AC) : (aset h q c).2 q = some c := by simp [aset]
theorem aset_ne {h : AH} {q j : Nat} {c : AC} (hj : j ≠ q) : (aset h q c).2 j = h.2 j := by simp [aset, hj]
theorem apush_self (h : AH) (c : AC) : (apush h c).2 h.1 = some c := by simp [apush]
theorem apush_ne {h : AH} {j : Nat} {c : AC} (hj : j ≠ h.1) : (apush h c).2 j = h.2 j := by simp [apush, hj]
theorem aset_n (h : AH) (q : Nat) (c : AC) : (aset h q c).1 = h.1 := rfl
theorem apush_n (h : AH) (c : AC) : (apush h c).1 = h.1 + 1 := rfl
def lcell (cA : ClassId) (vs : List Value) : Cell := { cls := cA, slots := vs.toArray, vm := .none }
theorem lcell_size (cA : ClassId) (vs : List Value) : (lcell cA vs).slots.size = vs.length := by simp [lcell]
theorem lcell_read (cA : ClassId) (vs : List Value) (j : Nat) : (lcell cA vs).slots[j]? = vs[j]? := by simp [lcell]
theorem lcell_set (cA : ClassId) (vs : List Value) (j : Nat) (v : Value) : (lcell cA vs).setSlot j v = lcell cA (vs.set j v) := by
  simp [lcell, Cell.setSlot]
def cel (D : va_G) (dA : Nat → ClassId) (q : Nat) (c : AC) (H : Heap) : Prop := if c.1 < 50 then va_at D classes (q, .inr c) H else H[q]? = some (lcell (dA (c.1 - 50)) c.2)
theorem cel.kept {D : va_G} {dA : Nat → ClassId} {q : Nat} {c : AC} {H H1 : Heap} (h : cel D dA q c H) (hq : H1[q]? = H[q]?) : cel D dA q c H1 := by
  unfold cel at h ⊢
  split
  · rename_i hc
    rw [if_pos hc] at h
    exact va_at.kept h hq
  · rename_i hc
    rw [if_neg hc] at h
    rw [hq]
    exact h
theorem cel.lt {D : va_G} {dA : Nat → ClassId} {q : Nat} {c : AC} {H : Heap} (h : cel D dA q c H) : q < H.size := by
  unfold cel at h
  split at h
  · exact va_at.lt h
  · exact (Array.getElem?_eq_some_iff.mp h).1
abbrev CX : Type := Launch × va_G × (Nat → ClassId) × Nat × Heap × Nat × Nat × (Nat → Int32)
abbrev cxl (x : CX) : Launch := x.1
abbrev cxD (x : CX) : va_G := x.2.1
abbrev cxA (x : CX) : Nat → ClassId := x.2.2.1
abbrev cxb (x : CX) : Nat := x.2.2.2.1
abbrev cxH (x : CX) : Heap := x.2.2.2.2.1
abbrev cxs (x : CX) : Nat := x.2.2.2.2.2.1
abbrev cxn (x : CX) : Nat := x.2.2.2.2.2.2.1
abbrev cxx (x : CX) : Nat → Int32 := x.2.2.2.2.2.2.2
def Rel (x : CX) (h : AH) (H : Heap) : Prop := h.1 = H.size ∧ cxb x ≤ H.size ∧ (∀ q c, h.2 q = some c → cxb x ≤ q ∧ cel (cxD x) (cxA x) q c H) ∧ ∀ q : Nat, q < cxb x → H[q]? = (cxH x)[q]?
theorem Rel.set {x : CX} {h : AH} {H H1 : Heap} {q : Nat} {c c0 : AC} (hR : Rel x h H) (h0 : h.2 q = some c0) (hc : cel (cxD x) (cxA x) q c H1) (hz : H1.size = H.size) (ho : ∀ j : Nat, j ≠ q → H1[j]? = H[j]?) : Rel x (aset h q c) H1 := by
  obtain ⟨r1, r2, r3, r4⟩ := hR
  have hbq := (r3 q c0 h0).1
  refine ⟨by rw [hz]; exact r1, by rw [hz]; exact r2, fun j c' hj => ?_, fun j hj => ?_⟩
  · by_cases e : j = q
    · subst e
      rw [aset_self] at hj
      cases hj
      exact ⟨hbq, hc⟩
    · rw [aset_ne e] at hj
      obtain ⟨a, b⟩ := r3 j c' hj
      exact ⟨a, b.kept (ho j e)⟩
  · rw [ho j (by omega)]
    exact r4 j hj
theorem Rel.push {x : CX} {h : AH} {H H1 : Heap} {c : AC} (hR : Rel x h H) (hc : cel (cxD x) (cxA x) h.1 c H1) (hz : H1.size = H.size + 1) (ho : ∀ j : Nat, j < H.size → H1[j]? = H[j]?) : Rel x (apush h c) H1 := by
  obtain ⟨r1, r2, r3, r4⟩ := hR
  refine ⟨by rw [hz, apush_n, r1], by omega, fun j c' hj => ?_, fun j hj => ?_⟩
  · by_cases e : j = h.1
    · subst e
      rw [apush_self] at hj
      cases hj
      exact ⟨by omega, hc⟩
    · rw [apush_ne e] at hj
      obtain ⟨a, b⟩ := r3 j c' hj
      exact ⟨a, b.kept (ho j b.lt)⟩
  · rw [ho j (by omega)]
    exact r4 j hj
/-- what the tables say, at any state of the run -/
def Kn (x : CX) (U : State) : Prop := va_K (cxD x) classes [] U ∧ (∀ i, i < atys.length → ArrOfT U (cxA x i) (aty i) ∧ va_RA U (cxA x i) (aty i)) ∧ (∀ a ∈ nestF, va_Nw (.fieldLinkNest a.1 a.2.1 a.2.2.1 a.2.2.2.1 a.2.2.2.2.1 a.2.2.2.2.2) U) ∧ (∀ a ∈ nestM, va_Nw (.methodLinkNest a.1 a.2.1 a.2.2.1 a.2.2.2) U) ∧ (∀ C ∈ overs, va_AO C U) ∧ va_X (cxs x) (cxn x) (cxx x) U (cxH x) ∧ cxs x < cxb x
theorem Kn.moved {x : CX} {s U : State} (hW : s.WarmedH U.vm) (h : Kn x s) : Kn x U := by
  obtain ⟨h1, h2, h3, h4, h5, h6, h7⟩ := h
  exact ⟨va_K.moved hW.alike h1, fun i hi => ⟨arrOfT_moved hW.alike (h2 i hi).1, (h2 i hi).2.moved hW.alike⟩, fun a ha => va_Nw.warmF hW (h3 a ha), fun a ha => va_Nw.warmM hW (h4 a ha), fun C hC => (h5 C hC).moved hW.alike, h6.moved hW.alike, h7⟩
def Qp (x : CX) (Post : Option Value → AH → Prop) : Array Value → State → Outcome → State → Prop := fun _ _ oc t => ∃ (r : Option Value) (h' : AH), oc = .returned r ∧ Post r h' ∧ Rel x h' t.heap
abbrev En (x : CX) (own : String) (cc : ByteArray) (nL : Nat) (rt : Option FieldType) (ini : Bool) (p : Program) (s : State) (m : MethodId) (args : Array Value) (meth : Method) (c : Code) : Prop :=
  p.tables.exec = Jvm.exec ∧ c.code = cc ∧ c.maxLocals = nL ∧ s.vm.findClass own = some m.cls ∧ (∀ w ∈ gtbl, w.before args s = true) ∧ meth.sig.returnType = rt ∧ meth.locks = false ∧ (ini = true → meth.name = "<init>") ∧ Kn x s
def V (x : CX) (own : String) (cc : ByteArray) (nL : Nat) (rt : Option FieldType) (ini : Bool) (R : Room) (mc ms : Nat) (Post : Option Value → AH → Prop) (pc : Nat) (L : List (Nat × Value)) (st : List Value) (h : AH) (k n : Nat) : Prop :=
  ∀ (p : Program) (e : Env) (s : State) (m : MethodId) (args : Array Value) (below : List Frame) (meth : Method) (c : Code), En x own cc nL rt ini p s m args meth c →
    ∀ (H : Heap) (locs : List Loc) (ls : Array Slot), Rel x h H → (∀ q ∈ locs, cxb x ≤ q.base) → lv_has ls nL L →
      W p (cxl x) e R s m args below meth c H locs k n (MQ below (Qp x Post) args s mc ms (fun q => cxb x ≤ q)) (F0 m pc ls st)
def lins (i : Nat) (v : Value) : List (Nat × Value) → List (Nat × Value)
  | [] => [(i, v)]
  | q :: r => if i < q.1 then (i, v) :: q :: r else q :: lins i v r
theorem lins_mem {i : Nat} {v : Value} {q : Nat × Value} : ∀ {l : List (Nat × Value)}, q ∈ lins i v l → q = (i, v) ∨ q ∈ l
  | [], h => by
    rw [lins] at h
    exact Or.inl (List.mem_singleton.mp h)
  | a :: r, h => by
    rw [lins] at h
    split at h
    · rcases List.mem_cons.mp h with h | h
      · exact Or.inl h
      · exact Or.inr h
    · rcases List.mem_cons.mp h with h | h
      · exact Or.inr (by rw [h]; exact List.mem_cons_self)
      · rcases lins_mem h with h | h
        · exact Or.inl h
        · exact Or.inr (List.mem_cons_of_mem _ h)
def lset1 (i : Nat) (v : Value) (l : List (Nat × Value)) : List (Nat × Value) := lins i v (l.filter (fun q => !(q.1 == i) && !(q.1 + 1 == i && q.2.category == 2)))
def lset2 (i : Nat) (v : Value) (l : List (Nat × Value)) : List (Nat × Value) := lins i v (l.filter (fun q => !(q.1 == i) && (!(q.1 == i + 1) && !(q.1 + 1 == i && q.2.category == 2))))
theorem lset1_has {ls : Array Slot} {nL i : Nat} {v : Value} {l : List (Nat × Value)} (h : lv_has ls nL ((i, v) :: l.filter (fun q => !(q.1 == i) && !(q.1 + 1 == i && q.2.category == 2)))) : lv_has ls nL (lset1 i v l) := by
  refine ⟨h.1, h.2.1, fun q hq => h.2.2 q ?_⟩
  rcases lins_mem hq with rfl | hq
  · exact List.mem_cons_self
  · exact List.mem_cons_of_mem _ hq
theorem lset2_has {ls : Array Slot} {nL i : Nat} {v : Value} {l : List (Nat × Value)} (h : lv_has ls nL ((i, v) :: l.filter (fun q => !(q.1 == i) && (!(q.1 == i + 1) && !(q.1 + 1 == i && q.2.category == 2))))) : lv_has ls nL (lset2 i v l) := by
  refine ⟨h.1, h.2.1, fun q hq => h.2.2 q ?_⟩
  rcases lins_mem hq with rfl | hq
  · exact List.mem_cons_self
  · exact List.mem_cons_of_mem _ hq
def lget : List (Nat × Value) → Nat → Option Value
  | [], _ => none
  | q :: r, i => if q.1 = i then some q.2 else lget r i
theorem lget_mem {i : Nat} {v : Value} : ∀ {l : List (Nat × Value)}, lget l i = some v → (i, v) ∈ l
  | [], h => by cases h
  | a :: r, h => by
    rw [lget] at h
    split at h
    · rename_i e
      cases h
      rw [← e]
      exact List.mem_cons_self
    · exact List.mem_cons_of_mem _ (lget_mem h)
theorem look {ls : Array Slot} {nL i : Nat} {v : Value} {l : List (Nat × Value)} (h : lv_has ls nL l) (hl : lget l i = some v) : ls[i]? = some (.val v) := h.2.2 (i, v) (lget_mem hl)
def isR : Value → Bool
  | .null => true
  | .ref _ => true
  | _ => false
theorem isR_or {v : Value} (h : isR v = true) : v = .null ∨ ∃ a, v = .ref a := by
  cases v <;> first | exact Or.inl rfl | exact Or.inr ⟨_, rfl⟩ | cases h
theorem isR_rf (r : Option Nat) : isR (va_rf r) = true := by cases r <;> rfl
section VR
variable {x : CX} {own : String} {cc : ByteArray} {nL : Nat} {rt : Option FieldType} {ini : Bool} {R : Room} {mc ms : Nat} {Post : Option Value → AH → Prop} {pc pc' : Nat} {L : List (Nat × Value)} {st : List Value} {h : AH} {k n : Nat}

theorem V_iconst {i : Int} {v : Int32} (hd : decode cc pc = .ok (.iconst i, 1)) (hv : Int32.ofInt i = v) (hp : pc + 1 = pc') (kk : V x own cc nL rt ini R mc ms Post pc' L (.int v :: st) h k n) : V x own cc nL rt ini R mc ms Post pc L (st) h k n := by
  subst hp
  intro p e s m args below meth c E H locs ls hR hlo hl
  obtain ⟨hx, hb, hml, hown, hts, hr, hlk, hin, hK⟩ := id E
  exact lv_iconst hx hb hd hv (kk p e s m args below meth c E H locs ls hR hlo hl)
theorem V_bipush {i : Int} {v : Int32} (hd : decode cc pc = .ok (.bipush i, 2)) (hv : (Int8.ofInt i).toInt32 = v) (hp : pc + 2 = pc') (kk : V x own cc nL rt ini R mc ms Post pc' L (.int v :: st) h k n) : V x own cc nL rt ini R mc ms Post pc L (st) h k n := by
  subst hp
  intro p e s m args below meth c E H locs ls hR hlo hl
  obtain ⟨hx, hb, hml, hown, hts, hr, hlk, hin, hK⟩ := id E
  exact lv_bipush hx hb hd hv (kk p e s m args below meth c E H locs ls hR hlo hl)
theorem V_sipush {i : Int} {v : Int32} (hd : decode cc pc = .ok (.sipush i, 3)) (hv : (Int16.ofInt i).toInt32 = v) (hp : pc + 3 = pc') (kk : V x own cc nL rt ini R mc ms Post pc' L (.int v :: st) h k n) : V x own cc nL rt ini R mc ms Post pc L (st) h k n := by
  subst hp
  intro p e s m args below meth c E H locs ls hR hlo hl
  obtain ⟨hx, hb, hml, hown, hts, hr, hlk, hin, hK⟩ := id E
  exact lv_sipush hx hb hd hv (kk p e s m args below meth c E H locs ls hR hlo hl)
theorem V_lconst {i : Fin 2} {v : Int64} (hd : decode cc pc = .ok (.lconst i, 1)) (hv : Int64.ofNat (i : Nat) = v) (hp : pc + 1 = pc') (kk : V x own cc nL rt ini R mc ms Post pc' L (.long v :: st) h k n) : V x own cc nL rt ini R mc ms Post pc L (st) h k n := by
  subst hp
  intro p e s m args below meth c E H locs ls hR hlo hl
  obtain ⟨hx, hb, hml, hown, hts, hr, hlk, hin, hK⟩ := id E
  exact lv_lconst hx hb hd hv (kk p e s m args below meth c E H locs ls hR hlo hl)
theorem V_null (hd : decode cc pc = .ok (.aconst_null, 1)) (hp : pc + 1 = pc') (kk : V x own cc nL rt ini R mc ms Post pc' L (.null :: st) h k n) : V x own cc nL rt ini R mc ms Post pc L (st) h k n := by
  subst hp
  intro p e s m args below meth c E H locs ls hR hlo hl
  obtain ⟨hx, hb, hml, hown, hts, hr, hlk, hin, hK⟩ := id E
  exact lv_null hx hb hd (kk p e s m args below meth c E H locs ls hR hlo hl)
theorem V_ldc {i : Nat} {v : Int32} (hd : decode cc pc = .ok (.ldc i, 2)) (hw : Cond.constant own i v ∈ gtbl) (hp : pc + 2 = pc') (kk : V x own cc nL rt ini R mc ms Post pc' L (.int v :: st) h k n) : V x own cc nL rt ini R mc ms Post pc L (st) h k n := by
  subst hp
  intro p e s m args below meth c E H locs ls hR hlo hl
  obtain ⟨hx, hb, hml, hown, hts, hr, hlk, hin, hK⟩ := id E
  exact lv_ldc hx hb hown (hts _ hw) hd (kk p e s m args below meth c E H locs ls hR hlo hl)
theorem V_ldc2 {i : Nat} {v : Int64} (hd : decode cc pc = .ok (.ldc2_w i, 3)) (hw : Cond.constantLong own i v ∈ gtbl) (hp : pc + 3 = pc') (kk : V x own cc nL rt ini R mc ms Post pc' L (.long v :: st) h k n) : V x own cc nL rt ini R mc ms Post pc L (st) h k n := by
  subst hp
  intro p e s m args below meth c E H locs ls hR hlo hl
  obtain ⟨hx, hb, hml, hown, hts, hr, hlk, hin, hK⟩ := id E
  exact lv_ldc2 hx hb hown (hts _ hw) hd (kk p e s m args below meth c E H locs ls hR hlo hl)
theorem V_iload_n {i : Fin 4} {v : Int32} (hd : decode cc pc = .ok (.iload_n i, 1)) (hL : lget L i.val = some (.int v)) (hp : pc + 1 = pc') (kk : V x own cc nL rt ini R mc ms Post pc' L (.int v :: st) h k n) : V x own cc nL rt ini R mc ms Post pc L (st) h k n := by
  subst hp
  intro p e s m args below meth c E H locs ls hR hlo hl
  obtain ⟨hx, hb, hml, hown, hts, hr, hlk, hin, hK⟩ := id E
  exact lv_iload_n hx hb hd rfl (look hl hL) (kk p e s m args below meth c E H locs ls hR hlo hl)
theorem V_iload {i : Nat} {v : Int32} (hd : decode cc pc = .ok (.iload i, 2)) (hL : lget L i = some (.int v)) (hp : pc + 2 = pc') (kk : V x own cc nL rt ini R mc ms Post pc' L (.int v :: st) h k n) : V x own cc nL rt ini R mc ms Post pc L (st) h k n := by
  subst hp
  intro p e s m args below meth c E H locs ls hR hlo hl
  obtain ⟨hx, hb, hml, hown, hts, hr, hlk, hin, hK⟩ := id E
  exact lv_iload hx hb hd (look hl hL) (kk p e s m args below meth c E H locs ls hR hlo hl)
theorem V_istore_n {i : Fin 4} {v : Int32} (hd : decode cc pc = .ok (.istore_n i, 1)) (hn : i.val < nL) (hp : pc + 1 = pc') (kk : V x own cc nL rt ini R mc ms Post pc' (lset1 i.val (.int v) L) (st) h k n) : V x own cc nL rt ini R mc ms Post pc L (.int v :: st) h k n := by
  subst hp
  intro p e s m args below meth c E H locs ls hR hlo hl
  obtain ⟨hx, hb, hml, hown, hts, hr, hlk, hin, hK⟩ := id E
  exact lv_istore_n hx hb hd rfl hl hn rfl (fun ls2 hl2 => kk p e s m args below meth c E H locs ls2 hR hlo (lset1_has hl2))
theorem V_istore {i : Nat} {v : Int32} (hd : decode cc pc = .ok (.istore i, 2)) (hn : i < nL) (hp : pc + 2 = pc') (kk : V x own cc nL rt ini R mc ms Post pc' (lset1 i (.int v) L) (st) h k n) : V x own cc nL rt ini R mc ms Post pc L (.int v :: st) h k n := by
  subst hp
  intro p e s m args below meth c E H locs ls hR hlo hl
  obtain ⟨hx, hb, hml, hown, hts, hr, hlk, hin, hK⟩ := id E
  exact lv_istore hx hb hd hl hn rfl (fun ls2 hl2 => kk p e s m args below meth c E H locs ls2 hR hlo (lset1_has hl2))
theorem V_lload_n {i : Fin 4} {v : Int64} (hd : decode cc pc = .ok (.lload_n i, 1)) (hL : lget L i.val = some (.long v)) (hp : pc + 1 = pc') (kk : V x own cc nL rt ini R mc ms Post pc' L (.long v :: st) h k n) : V x own cc nL rt ini R mc ms Post pc L (st) h k n := by
  subst hp
  intro p e s m args below meth c E H locs ls hR hlo hl
  obtain ⟨hx, hb, hml, hown, hts, hr, hlk, hin, hK⟩ := id E
  exact lv_lload_n hx hb hd rfl (look hl hL) (kk p e s m args below meth c E H locs ls hR hlo hl)
theorem V_lload {i : Nat} {v : Int64} (hd : decode cc pc = .ok (.lload i, 2)) (hL : lget L i = some (.long v)) (hp : pc + 2 = pc') (kk : V x own cc nL rt ini R mc ms Post pc' L (.long v :: st) h k n) : V x own cc nL rt ini R mc ms Post pc L (st) h k n := by
  subst hp
  intro p e s m args below meth c E H locs ls hR hlo hl
  obtain ⟨hx, hb, hml, hown, hts, hr, hlk, hin, hK⟩ := id E
  exact lv_lload hx hb hd (look hl hL) (kk p e s m args below meth c E H locs ls hR hlo hl)
theorem V_lstore_n {i : Fin 4} {v : Int64} (hd : decode cc pc = .ok (.lstore_n i, 1)) (hn : i.val + 1 < nL) (hp : pc + 1 = pc') (kk : V x own cc nL rt ini R mc ms Post pc' (lset2 i.val (.long v) L) (st) h k n) : V x own cc nL rt ini R mc ms Post pc L (.long v :: st) h k n := by
  subst hp
  intro p e s m args below meth c E H locs ls hR hlo hl
  obtain ⟨hx, hb, hml, hown, hts, hr, hlk, hin, hK⟩ := id E
  exact lv_lstore_n hx hb hd rfl hl hn rfl (fun ls2 hl2 => kk p e s m args below meth c E H locs ls2 hR hlo (lset2_has hl2))
theorem V_lstore {i : Nat} {v : Int64} (hd : decode cc pc = .ok (.lstore i, 2)) (hn : i + 1 < nL) (hp : pc + 2 = pc') (kk : V x own cc nL rt ini R mc ms Post pc' (lset2 i (.long v) L) (st) h k n) : V x own cc nL rt ini R mc ms Post pc L (.long v :: st) h k n := by
  subst hp
  intro p e s m args below meth c E H locs ls hR hlo hl
  obtain ⟨hx, hb, hml, hown, hts, hr, hlk, hin, hK⟩ := id E
  exact lv_lstore hx hb hd hl hn rfl (fun ls2 hl2 => kk p e s m args below meth c E H locs ls2 hR hlo (lset2_has hl2))
theorem V_aload_n {i : Fin 4} {v : Value} (hd : decode cc pc = .ok (.aload_n i, 1)) (hL : lget L i.val = some v) (hv : isR v = true) (hp : pc + 1 = pc') (kk : V x own cc nL rt ini R mc ms Post pc' L (v :: st) h k n) : V x own cc nL rt ini R mc ms Post pc L (st) h k n := by
  subst hp
  intro p e s m args below meth c E H locs ls hR hlo hl
  obtain ⟨hx, hb, hml, hown, hts, hr, hlk, hin, hK⟩ := id E
  rcases isR_or hv with rfl | ⟨a, rfl⟩
  · exact lv_aload_nN hx hb hd rfl (look hl hL) (kk p e s m args below meth c E H locs ls hR hlo hl)
  · exact lv_aload_n hx hb hd rfl (look hl hL) (kk p e s m args below meth c E H locs ls hR hlo hl)
theorem V_aload {i : Nat} {v : Value} (hd : decode cc pc = .ok (.aload i, 2)) (hL : lget L i = some v) (hv : isR v = true) (hp : pc + 2 = pc') (kk : V x own cc nL rt ini R mc ms Post pc' L (v :: st) h k n) : V x own cc nL rt ini R mc ms Post pc L (st) h k n := by
  subst hp
  intro p e s m args below meth c E H locs ls hR hlo hl
  obtain ⟨hx, hb, hml, hown, hts, hr, hlk, hin, hK⟩ := id E
  rcases isR_or hv with rfl | ⟨a, rfl⟩
  · exact lv_aloadN hx hb hd (look hl hL) (kk p e s m args below meth c E H locs ls hR hlo hl)
  · exact lv_aload hx hb hd (look hl hL) (kk p e s m args below meth c E H locs ls hR hlo hl)
theorem V_astore_n {i : Fin 4} {v : Value} (hd : decode cc pc = .ok (.astore_n i, 1)) (hv : isR v = true) (hn : i.val < nL) (hp : pc + 1 = pc') (kk : V x own cc nL rt ini R mc ms Post pc' (lset1 i.val v L) (st) h k n) : V x own cc nL rt ini R mc ms Post pc L (v :: st) h k n := by
  subst hp
  intro p e s m args below meth c E H locs ls hR hlo hl
  obtain ⟨hx, hb, hml, hown, hts, hr, hlk, hin, hK⟩ := id E
  rcases isR_or hv with rfl | ⟨a, rfl⟩
  · exact lv_astore_nN hx hb hd rfl hl hn rfl (fun ls2 hl2 => kk p e s m args below meth c E H locs ls2 hR hlo (lset1_has hl2))
  · exact lv_astore_n hx hb hd rfl hl hn rfl (fun ls2 hl2 => kk p e s m args below meth c E H locs ls2 hR hlo (lset1_has hl2))
theorem V_astore {i : Nat} {v : Value} (hd : decode cc pc = .ok (.astore i, 2)) (hv : isR v = true) (hn : i < nL) (hp : pc + 2 = pc') (kk : V x own cc nL rt ini R mc ms Post pc' (lset1 i v L) (st) h k n) : V x own cc nL rt ini R mc ms Post pc L (v :: st) h k n := by
  subst hp
  intro p e s m args below meth c E H locs ls hR hlo hl
  obtain ⟨hx, hb, hml, hown, hts, hr, hlk, hin, hK⟩ := id E
  rcases isR_or hv with rfl | ⟨a, rfl⟩
  · exact lv_astoreN hx hb hd hl hn rfl (fun ls2 hl2 => kk p e s m args below meth c E H locs ls2 hR hlo (lset1_has hl2))
  · exact lv_astore hx hb hd hl hn rfl (fun ls2 hl2 => kk p e s m args below meth c E H locs ls2 hR hlo (lset1_has hl2))
theorem V_iinc {i : Nat} {d : Int} {v w : Int32} (hd : decode cc pc = .ok (.iinc i d, 3)) (hL : lget L i = some (.int v)) (hw : v + Int32.ofInt d = w) (hn : i < nL) (hp : pc + 3 = pc') (kk : V x own cc nL rt ini R mc ms Post pc' (lset1 i (.int w) L) (st) h k n) : V x own cc nL rt ini R mc ms Post pc L (st) h k n := by
  subst hp
  intro p e s m args below meth c E H locs ls hR hlo hl
  obtain ⟨hx, hb, hml, hown, hts, hr, hlk, hin, hK⟩ := id E
  obtain ⟨j, hj⟩ := List.getElem?_of_mem (lget_mem hL)
  exact lv_iinc hx hb hd hl hj hw hn rfl (fun ls2 hl2 => kk p e s m args below meth c E H locs ls2 hR hlo (lset1_has hl2))
theorem V_iadd {x1 y1 : Int32} (hd : decode cc pc = .ok (.iadd, 1)) (hp : pc + 1 = pc') (kk : V x own cc nL rt ini R mc ms Post pc' L (.int (x1 + y1) :: st) h k n) : V x own cc nL rt ini R mc ms Post pc L (.int y1 :: .int x1 :: st) h k n := by
  subst hp
  intro p e s m args below meth c E H locs ls hR hlo hl
  obtain ⟨hx, hb, hml, hown, hts, hr, hlk, hin, hK⟩ := id E
  exact lv_iadd hx hb hd (kk p e s m args below meth c E H locs ls hR hlo hl)
theorem V_isub {x1 y1 : Int32} (hd : decode cc pc = .ok (.isub, 1)) (hp : pc + 1 = pc') (kk : V x own cc nL rt ini R mc ms Post pc' L (.int (x1 - y1) :: st) h k n) : V x own cc nL rt ini R mc ms Post pc L (.int y1 :: .int x1 :: st) h k n := by
  subst hp
  intro p e s m args below meth c E H locs ls hR hlo hl
  obtain ⟨hx, hb, hml, hown, hts, hr, hlk, hin, hK⟩ := id E
  exact lv_isub hx hb hd (kk p e s m args below meth c E H locs ls hR hlo hl)
theorem V_imul {x1 y1 : Int32} (hd : decode cc pc = .ok (.imul, 1)) (hp : pc + 1 = pc') (kk : V x own cc nL rt ini R mc ms Post pc' L (.int (x1 * y1) :: st) h k n) : V x own cc nL rt ini R mc ms Post pc L (.int y1 :: .int x1 :: st) h k n := by
  subst hp
  intro p e s m args below meth c E H locs ls hR hlo hl
  obtain ⟨hx, hb, hml, hown, hts, hr, hlk, hin, hK⟩ := id E
  exact lv_imul hx hb hd (kk p e s m args below meth c E H locs ls hR hlo hl)
theorem V_iand {x1 y1 : Int32} (hd : decode cc pc = .ok (.iand, 1)) (hp : pc + 1 = pc') (kk : V x own cc nL rt ini R mc ms Post pc' L (.int (x1 &&& y1) :: st) h k n) : V x own cc nL rt ini R mc ms Post pc L (.int y1 :: .int x1 :: st) h k n := by
  subst hp
  intro p e s m args below meth c E H locs ls hR hlo hl
  obtain ⟨hx, hb, hml, hown, hts, hr, hlk, hin, hK⟩ := id E
  exact lv_iand hx hb hd (kk p e s m args below meth c E H locs ls hR hlo hl)
theorem V_ior {x1 y1 : Int32} (hd : decode cc pc = .ok (.ior, 1)) (hp : pc + 1 = pc') (kk : V x own cc nL rt ini R mc ms Post pc' L (.int (x1 ||| y1) :: st) h k n) : V x own cc nL rt ini R mc ms Post pc L (.int y1 :: .int x1 :: st) h k n := by
  subst hp
  intro p e s m args below meth c E H locs ls hR hlo hl
  obtain ⟨hx, hb, hml, hown, hts, hr, hlk, hin, hK⟩ := id E
  exact lv_ior hx hb hd (kk p e s m args below meth c E H locs ls hR hlo hl)
theorem V_ixor {x1 y1 : Int32} (hd : decode cc pc = .ok (.ixor, 1)) (hp : pc + 1 = pc') (kk : V x own cc nL rt ini R mc ms Post pc' L (.int (x1 ^^^ y1) :: st) h k n) : V x own cc nL rt ini R mc ms Post pc L (.int y1 :: .int x1 :: st) h k n := by
  subst hp
  intro p e s m args below meth c E H locs ls hR hlo hl
  obtain ⟨hx, hb, hml, hown, hts, hr, hlk, hin, hK⟩ := id E
  exact lv_ixor hx hb hd (kk p e s m args below meth c E H locs ls hR hlo hl)
theorem V_ishl {x1 y1 : Int32} (hd : decode cc pc = .ok (.ishl, 1)) (hp : pc + 1 = pc') (kk : V x own cc nL rt ini R mc ms Post pc' L (.int (x1 <<< (y1 &&& 31)) :: st) h k n) : V x own cc nL rt ini R mc ms Post pc L (.int y1 :: .int x1 :: st) h k n := by
  subst hp
  intro p e s m args below meth c E H locs ls hR hlo hl
  obtain ⟨hx, hb, hml, hown, hts, hr, hlk, hin, hK⟩ := id E
  exact lv_ishl hx hb hd (kk p e s m args below meth c E H locs ls hR hlo hl)
theorem V_ishr {x1 y1 : Int32} (hd : decode cc pc = .ok (.ishr, 1)) (hp : pc + 1 = pc') (kk : V x own cc nL rt ini R mc ms Post pc' L (.int (x1 >>> (y1 &&& 31)) :: st) h k n) : V x own cc nL rt ini R mc ms Post pc L (.int y1 :: .int x1 :: st) h k n := by
  subst hp
  intro p e s m args below meth c E H locs ls hR hlo hl
  obtain ⟨hx, hb, hml, hown, hts, hr, hlk, hin, hK⟩ := id E
  exact lv_ishr hx hb hd (kk p e s m args below meth c E H locs ls hR hlo hl)
theorem V_ladd {x1 y1 : Int64} (hd : decode cc pc = .ok (.ladd, 1)) (hp : pc + 1 = pc') (kk : V x own cc nL rt ini R mc ms Post pc' L (.long (x1 + y1) :: st) h k n) : V x own cc nL rt ini R mc ms Post pc L (.long y1 :: .long x1 :: st) h k n := by
  subst hp
  intro p e s m args below meth c E H locs ls hR hlo hl
  obtain ⟨hx, hb, hml, hown, hts, hr, hlk, hin, hK⟩ := id E
  exact lv_ladd hx hb hd (kk p e s m args below meth c E H locs ls hR hlo hl)
theorem V_lsub {x1 y1 : Int64} (hd : decode cc pc = .ok (.lsub, 1)) (hp : pc + 1 = pc') (kk : V x own cc nL rt ini R mc ms Post pc' L (.long (x1 - y1) :: st) h k n) : V x own cc nL rt ini R mc ms Post pc L (.long y1 :: .long x1 :: st) h k n := by
  subst hp
  intro p e s m args below meth c E H locs ls hR hlo hl
  obtain ⟨hx, hb, hml, hown, hts, hr, hlk, hin, hK⟩ := id E
  exact lv_lsub hx hb hd (kk p e s m args below meth c E H locs ls hR hlo hl)
theorem V_land {x1 y1 : Int64} (hd : decode cc pc = .ok (.land, 1)) (hp : pc + 1 = pc') (kk : V x own cc nL rt ini R mc ms Post pc' L (.long (x1 &&& y1) :: st) h k n) : V x own cc nL rt ini R mc ms Post pc L (.long y1 :: .long x1 :: st) h k n := by
  subst hp
  intro p e s m args below meth c E H locs ls hR hlo hl
  obtain ⟨hx, hb, hml, hown, hts, hr, hlk, hin, hK⟩ := id E
  exact lv_land hx hb hd (kk p e s m args below meth c E H locs ls hR hlo hl)
theorem V_lor {x1 y1 : Int64} (hd : decode cc pc = .ok (.lor, 1)) (hp : pc + 1 = pc') (kk : V x own cc nL rt ini R mc ms Post pc' L (.long (x1 ||| y1) :: st) h k n) : V x own cc nL rt ini R mc ms Post pc L (.long y1 :: .long x1 :: st) h k n := by
  subst hp
  intro p e s m args below meth c E H locs ls hR hlo hl
  obtain ⟨hx, hb, hml, hown, hts, hr, hlk, hin, hK⟩ := id E
  exact lv_lor hx hb hd (kk p e s m args below meth c E H locs ls hR hlo hl)
theorem V_lxor {x1 y1 : Int64} (hd : decode cc pc = .ok (.lxor, 1)) (hp : pc + 1 = pc') (kk : V x own cc nL rt ini R mc ms Post pc' L (.long (x1 ^^^ y1) :: st) h k n) : V x own cc nL rt ini R mc ms Post pc L (.long y1 :: .long x1 :: st) h k n := by
  subst hp
  intro p e s m args below meth c E H locs ls hR hlo hl
  obtain ⟨hx, hb, hml, hown, hts, hr, hlk, hin, hK⟩ := id E
  exact lv_lxor hx hb hd (kk p e s m args below meth c E H locs ls hR hlo hl)
theorem V_lshl {x1 : Int64} {y1 : Int32} (hd : decode cc pc = .ok (.lshl, 1)) (hp : pc + 1 = pc') (kk : V x own cc nL rt ini R mc ms Post pc' L (.long (x1 <<< (y1.toInt64 &&& 63)) :: st) h k n) : V x own cc nL rt ini R mc ms Post pc L (.int y1 :: .long x1 :: st) h k n := by
  subst hp
  intro p e s m args below meth c E H locs ls hR hlo hl
  obtain ⟨hx, hb, hml, hown, hts, hr, hlk, hin, hK⟩ := id E
  exact lv_lshl hx hb hd rfl (kk p e s m args below meth c E H locs ls hR hlo hl)
theorem V_lcmp {x1 y1 : Int64} (hd : decode cc pc = .ok (.lcmp, 1)) (hp : pc + 1 = pc') (kk : V x own cc nL rt ini R mc ms Post pc' L (.int (lg_cmp x1 y1) :: st) h k n) : V x own cc nL rt ini R mc ms Post pc L (.long y1 :: .long x1 :: st) h k n := by
  subst hp
  intro p e s m args below meth c E H locs ls hR hlo hl
  obtain ⟨hx, hb, hml, hown, hts, hr, hlk, hin, hK⟩ := id E
  exact W.lcmp hx hb hd (kk p e s m args below meth c E H locs ls hR hlo hl)
theorem V_i2l {x1 : Int32} (hd : decode cc pc = .ok (.i2l, 1)) (hp : pc + 1 = pc') (kk : V x own cc nL rt ini R mc ms Post pc' L (.long x1.toInt64 :: st) h k n) : V x own cc nL rt ini R mc ms Post pc L (.int x1 :: st) h k n := by
  subst hp
  intro p e s m args below meth c E H locs ls hR hlo hl
  obtain ⟨hx, hb, hml, hown, hts, hr, hlk, hin, hK⟩ := id E
  exact lv_i2l hx hb hd rfl (kk p e s m args below meth c E H locs ls hR hlo hl)
theorem V_l2i {x1 : Int64} (hd : decode cc pc = .ok (.l2i, 1)) (hp : pc + 1 = pc') (kk : V x own cc nL rt ini R mc ms Post pc' L (.int x1.toInt32 :: st) h k n) : V x own cc nL rt ini R mc ms Post pc L (.long x1 :: st) h k n := by
  subst hp
  intro p e s m args below meth c E H locs ls hR hlo hl
  obtain ⟨hx, hb, hml, hown, hts, hr, hlk, hin, hK⟩ := id E
  exact lv_l2i hx hb hd rfl (kk p e s m args below meth c E H locs ls hR hlo hl)
theorem V_dup {va : Value} (hd : decode cc pc = .ok (.dup, 1)) (hc : va.category = 1) (hp : pc + 1 = pc') (kk : V x own cc nL rt ini R mc ms Post pc' L (va :: va :: st) h k n) : V x own cc nL rt ini R mc ms Post pc L (va :: st) h k n := by
  subst hp
  intro p e s m args below meth c E H locs ls hR hlo hl
  obtain ⟨hx, hb, hml, hown, hts, hr, hlk, hin, hK⟩ := id E
  exact lv_dup hx hb hd hc (kk p e s m args below meth c E H locs ls hR hlo hl)
theorem V_pop {va : Value} (hd : decode cc pc = .ok (.pop, 1)) (hc : va.category = 1) (hp : pc + 1 = pc') (kk : V x own cc nL rt ini R mc ms Post pc' L (st) h k n) : V x own cc nL rt ini R mc ms Post pc L (va :: st) h k n := by
  subst hp
  intro p e s m args below meth c E H locs ls hR hlo hl
  obtain ⟨hx, hb, hml, hown, hts, hr, hlk, hin, hK⟩ := id E
  exact lv_pop hx hb hd hc (kk p e s m args below meth c E H locs ls hR hlo hl)
theorem V_dup_x1 {va vb : Value} (hd : decode cc pc = .ok (.dup_x1, 1)) (hc : va.category = 1) (hc2 : vb.category = 1) (hp : pc + 1 = pc') (kk : V x own cc nL rt ini R mc ms Post pc' L (va :: vb :: va :: st) h k n) : V x own cc nL rt ini R mc ms Post pc L (va :: vb :: st) h k n := by
  subst hp
  intro p e s m args below meth c E H locs ls hR hlo hl
  obtain ⟨hx, hb, hml, hown, hts, hr, hlk, hin, hK⟩ := id E
  exact lv_dup_x1 hx hb hd hc hc2 (kk p e s m args below meth c E H locs ls hR hlo hl)
theorem V_dup_x2 {va vb vd : Value} (hd : decode cc pc = .ok (.dup_x2, 1)) (hc : va.category = 1) (hc2 : vb.category = 1) (hc3 : vd.category = 1) (hp : pc + 1 = pc') (kk : V x own cc nL rt ini R mc ms Post pc' L (va :: vb :: vd :: va :: st) h k n) : V x own cc nL rt ini R mc ms Post pc L (va :: vb :: vd :: st) h k n := by
  subst hp
  intro p e s m args below meth c E H locs ls hR hlo hl
  obtain ⟨hx, hb, hml, hown, hts, hr, hlk, hin, hK⟩ := id E
  exact lv_dup_x2 hx hb hd hc hc2 hc3 (kk p e s m args below meth c E H locs ls hR hlo hl)
theorem V_dup2 {va vb : Value} (hd : decode cc pc = .ok (.dup2, 1)) (hc : va.category = 1) (hc2 : vb.category = 1) (hp : pc + 1 = pc') (kk : V x own cc nL rt ini R mc ms Post pc' L (va :: vb :: va :: vb :: st) h k n) : V x own cc nL rt ini R mc ms Post pc L (va :: vb :: st) h k n := by
  subst hp
  intro p e s m args below meth c E H locs ls hR hlo hl
  obtain ⟨hx, hb, hml, hown, hts, hr, hlk, hin, hK⟩ := id E
  exact lv_dup2_11 hx hb hd hc hc2 (kk p e s m args below meth c E H locs ls hR hlo hl)
theorem V_dup2l {va : Value} (hd : decode cc pc = .ok (.dup2, 1)) (hc : va.category = 2) (hp : pc + 1 = pc') (kk : V x own cc nL rt ini R mc ms Post pc' L (va :: va :: st) h k n) : V x own cc nL rt ini R mc ms Post pc L (va :: st) h k n := by
  subst hp
  intro p e s m args below meth c E H locs ls hR hlo hl
  obtain ⟨hx, hb, hml, hown, hts, hr, hlk, hin, hK⟩ := id E
  exact lv_dup2_2 hx hb hd hc (kk p e s m args below meth c E H locs ls hR hlo hl)
theorem V_if_eq {x1 : Int32} {off : Int} {tgt : Nat} (hd : decode cc pc = .ok (.ifCond .eq off, 3)) (ht : (pc : Int) + off = (tgt : Int)) (hp : pc + 3 = pc') (kt : x1 = 0 → V x own cc nL rt ini R mc ms Post tgt L st h k n) (kf : ¬ x1 = 0 → V x own cc nL rt ini R mc ms Post pc' L st h k n) : V x own cc nL rt ini R mc ms Post pc L (.int x1 :: st) h k n := by
  subst hp
  intro p e s m args below meth c E H locs ls hR hlo hl
  obtain ⟨hx, hb, hml, hown, hts, hr, hlk, hin, hK⟩ := id E
  exact lv_if_eq hx hb hd ht (fun z => kt z p e s m args below meth c E H locs ls hR hlo hl) (fun z => kf z p e s m args below meth c E H locs ls hR hlo hl)
theorem V_icmp_eq {x1 y1 : Int32} {off : Int} {tgt : Nat} (hd : decode cc pc = .ok (.if_icmp .eq off, 3)) (ht : (pc : Int) + off = (tgt : Int)) (hp : pc + 3 = pc') (kt : x1 = y1 → V x own cc nL rt ini R mc ms Post tgt L st h k n) (kf : ¬ x1 = y1 → V x own cc nL rt ini R mc ms Post pc' L st h k n) : V x own cc nL rt ini R mc ms Post pc L (.int y1 :: .int x1 :: st) h k n := by
  subst hp
  intro p e s m args below meth c E H locs ls hR hlo hl
  obtain ⟨hx, hb, hml, hown, hts, hr, hlk, hin, hK⟩ := id E
  exact lv_icmp_eq hx hb hd ht (fun z => kt z p e s m args below meth c E H locs ls hR hlo hl) (fun z => kf z p e s m args below meth c E H locs ls hR hlo hl)
theorem V_if_ne {x1 : Int32} {off : Int} {tgt : Nat} (hd : decode cc pc = .ok (.ifCond .ne off, 3)) (ht : (pc : Int) + off = (tgt : Int)) (hp : pc + 3 = pc') (kt : ¬ x1 = 0 → V x own cc nL rt ini R mc ms Post tgt L st h k n) (kf : x1 = 0 → V x own cc nL rt ini R mc ms Post pc' L st h k n) : V x own cc nL rt ini R mc ms Post pc L (.int x1 :: st) h k n := by
  subst hp
  intro p e s m args below meth c E H locs ls hR hlo hl
  obtain ⟨hx, hb, hml, hown, hts, hr, hlk, hin, hK⟩ := id E
  exact lv_if_ne hx hb hd ht (fun z => kt z p e s m args below meth c E H locs ls hR hlo hl) (fun z => kf z p e s m args below meth c E H locs ls hR hlo hl)
theorem V_icmp_ne {x1 y1 : Int32} {off : Int} {tgt : Nat} (hd : decode cc pc = .ok (.if_icmp .ne off, 3)) (ht : (pc : Int) + off = (tgt : Int)) (hp : pc + 3 = pc') (kt : ¬ x1 = y1 → V x own cc nL rt ini R mc ms Post tgt L st h k n) (kf : x1 = y1 → V x own cc nL rt ini R mc ms Post pc' L st h k n) : V x own cc nL rt ini R mc ms Post pc L (.int y1 :: .int x1 :: st) h k n := by
  subst hp
  intro p e s m args below meth c E H locs ls hR hlo hl
  obtain ⟨hx, hb, hml, hown, hts, hr, hlk, hin, hK⟩ := id E
  exact lv_icmp_ne hx hb hd ht (fun z => kt z p e s m args below meth c E H locs ls hR hlo hl) (fun z => kf z p e s m args below meth c E H locs ls hR hlo hl)
theorem V_if_lt {x1 : Int32} {off : Int} {tgt : Nat} (hd : decode cc pc = .ok (.ifCond .lt off, 3)) (ht : (pc : Int) + off = (tgt : Int)) (hp : pc + 3 = pc') (kt : x1 < 0 → V x own cc nL rt ini R mc ms Post tgt L st h k n) (kf : ¬ x1 < 0 → V x own cc nL rt ini R mc ms Post pc' L st h k n) : V x own cc nL rt ini R mc ms Post pc L (.int x1 :: st) h k n := by
  subst hp
  intro p e s m args below meth c E H locs ls hR hlo hl
  obtain ⟨hx, hb, hml, hown, hts, hr, hlk, hin, hK⟩ := id E
  exact lv_if_lt hx hb hd ht (fun z => kt z p e s m args below meth c E H locs ls hR hlo hl) (fun z => kf z p e s m args below meth c E H locs ls hR hlo hl)
theorem V_icmp_lt {x1 y1 : Int32} {off : Int} {tgt : Nat} (hd : decode cc pc = .ok (.if_icmp .lt off, 3)) (ht : (pc : Int) + off = (tgt : Int)) (hp : pc + 3 = pc') (kt : x1 < y1 → V x own cc nL rt ini R mc ms Post tgt L st h k n) (kf : ¬ x1 < y1 → V x own cc nL rt ini R mc ms Post pc' L st h k n) : V x own cc nL rt ini R mc ms Post pc L (.int y1 :: .int x1 :: st) h k n := by
  subst hp
  intro p e s m args below meth c E H locs ls hR hlo hl
  obtain ⟨hx, hb, hml, hown, hts, hr, hlk, hin, hK⟩ := id E
  exact lv_icmp_lt hx hb hd ht (fun z => kt z p e s m args below meth c E H locs ls hR hlo hl) (fun z => kf z p e s m args below meth c E H locs ls hR hlo hl)
theorem V_if_ge {x1 : Int32} {off : Int} {tgt : Nat} (hd : decode cc pc = .ok (.ifCond .ge off, 3)) (ht : (pc : Int) + off = (tgt : Int)) (hp : pc + 3 = pc') (kt : 0 ≤ x1 → V x own cc nL rt ini R mc ms Post tgt L st h k n) (kf : ¬ 0 ≤ x1 → V x own cc nL rt ini R mc ms Post pc' L st h k n) : V x own cc nL rt ini R mc ms Post pc L (.int x1 :: st) h k n := by
  subst hp
  intro p e s m args below meth c E H locs ls hR hlo hl
  obtain ⟨hx, hb, hml, hown, hts, hr, hlk, hin, hK⟩ := id E
  exact lv_if_ge hx hb hd ht (fun z => kt z p e s m args below meth c E H locs ls hR hlo hl) (fun z => kf z p e s m args below meth c E H locs ls hR hlo hl)
theorem V_icmp_ge {x1 y1 : Int32} {off : Int} {tgt : Nat} (hd : decode cc pc = .ok (.if_icmp .ge off, 3)) (ht : (pc : Int) + off = (tgt : Int)) (hp : pc + 3 = pc') (kt : y1 ≤ x1 → V x own cc nL rt ini R mc ms Post tgt L st h k n) (kf : ¬ y1 ≤ x1 → V x own cc nL rt ini R mc ms Post pc' L st h k n) : V x own cc nL rt ini R mc ms Post pc L (.int y1 :: .int x1 :: st) h k n := by
  subst hp
  intro p e s m args below meth c E H locs ls hR hlo hl
  obtain ⟨hx, hb, hml, hown, hts, hr, hlk, hin, hK⟩ := id E
  exact lv_icmp_ge hx hb hd ht (fun z => kt z p e s m args below meth c E H locs ls hR hlo hl) (fun z => kf z p e s m args below meth c E H locs ls hR hlo hl)
theorem V_if_gt {x1 : Int32} {off : Int} {tgt : Nat} (hd : decode cc pc = .ok (.ifCond .gt off, 3)) (ht : (pc : Int) + off = (tgt : Int)) (hp : pc + 3 = pc') (kt : 0 < x1 → V x own cc nL rt ini R mc ms Post tgt L st h k n) (kf : ¬ 0 < x1 → V x own cc nL rt ini R mc ms Post pc' L st h k n) : V x own cc nL rt ini R mc ms Post pc L (.int x1 :: st) h k n := by
  subst hp
  intro p e s m args below meth c E H locs ls hR hlo hl
  obtain ⟨hx, hb, hml, hown, hts, hr, hlk, hin, hK⟩ := id E
  exact lv_if_gt hx hb hd ht (fun z => kt z p e s m args below meth c E H locs ls hR hlo hl) (fun z => kf z p e s m args below meth c E H locs ls hR hlo hl)
theorem V_icmp_gt {x1 y1 : Int32} {off : Int} {tgt : Nat} (hd : decode cc pc = .ok (.if_icmp .gt off, 3)) (ht : (pc : Int) + off = (tgt : Int)) (hp : pc + 3 = pc') (kt : y1 < x1 → V x own cc nL rt ini R mc ms Post tgt L st h k n) (kf : ¬ y1 < x1 → V x own cc nL rt ini R mc ms Post pc' L st h k n) : V x own cc nL rt ini R mc ms Post pc L (.int y1 :: .int x1 :: st) h k n := by
  subst hp
  intro p e s m args below meth c E H locs ls hR hlo hl
  obtain ⟨hx, hb, hml, hown, hts, hr, hlk, hin, hK⟩ := id E
  exact lv_icmp_gt hx hb hd ht (fun z => kt z p e s m args below meth c E H locs ls hR hlo hl) (fun z => kf z p e s m args below meth c E H locs ls hR hlo hl)
theorem V_if_le {x1 : Int32} {off : Int} {tgt : Nat} (hd : decode cc pc = .ok (.ifCond .le off, 3)) (ht : (pc : Int) + off = (tgt : Int)) (hp : pc + 3 = pc') (kt : x1 ≤ 0 → V x own cc nL rt ini R mc ms Post tgt L st h k n) (kf : ¬ x1 ≤ 0 → V x own cc nL rt ini R mc ms Post pc' L st h k n) : V x own cc nL rt ini R mc ms Post pc L (.int x1 :: st) h k n := by
  subst hp
  intro p e s m args below meth c E H locs ls hR hlo hl
  obtain ⟨hx, hb, hml, hown, hts, hr, hlk, hin, hK⟩ := id E
  exact lv_if_le hx hb hd ht (fun z => kt z p e s m args below meth c E H locs ls hR hlo hl) (fun z => kf z p e s m args below meth c E H locs ls hR hlo hl)
theorem V_icmp_le {x1 y1 : Int32} {off : Int} {tgt : Nat} (hd : decode cc pc = .ok (.if_icmp .le off, 3)) (ht : (pc : Int) + off = (tgt : Int)) (hp : pc + 3 = pc') (kt : x1 ≤ y1 → V x own cc nL rt ini R mc ms Post tgt L st h k n) (kf : ¬ x1 ≤ y1 → V x own cc nL rt ini R mc ms Post pc' L st h k n) : V x own cc nL rt ini R mc ms Post pc L (.int y1 :: .int x1 :: st) h k n := by
  subst hp
  intro p e s m args below meth c E H locs ls hR hlo hl
  obtain ⟨hx, hb, hml, hown, hts, hr, hlk, hin, hK⟩ := id E
  exact lv_icmp_le hx hb hd ht (fun z => kt z p e s m args below meth c E H locs ls hR hlo hl) (fun z => kf z p e s m args below meth c E H locs ls hR hlo hl)
theorem V_acmp_eq {rx ry : Option Nat} {off : Int} {tgt : Nat} (hd : decode cc pc = .ok (.if_acmp .eq off, 3)) (ht : (pc : Int) + off = (tgt : Int)) (hp : pc + 3 = pc') (kt : rx = ry → V x own cc nL rt ini R mc ms Post tgt L st h k n) (kf : ¬ rx = ry → V x own cc nL rt ini R mc ms Post pc' L st h k n) : V x own cc nL rt ini R mc ms Post pc L (va_rf ry :: va_rf rx :: st) h k n := by
  subst hp
  intro p e s m args below meth c E H locs ls hR hlo hl
  obtain ⟨hx, hb, hml, hown, hts, hr, hlk, hin, hK⟩ := id E
  exact lv_acmp_eq hx hb hd ht (fun z => kt z p e s m args below meth c E H locs ls hR hlo hl) (fun z => kf z p e s m args below meth c E H locs ls hR hlo hl)
theorem V_acmp_ne {rx ry : Option Nat} {off : Int} {tgt : Nat} (hd : decode cc pc = .ok (.if_acmp .ne off, 3)) (ht : (pc : Int) + off = (tgt : Int)) (hp : pc + 3 = pc') (kt : ¬ rx = ry → V x own cc nL rt ini R mc ms Post tgt L st h k n) (kf : rx = ry → V x own cc nL rt ini R mc ms Post pc' L st h k n) : V x own cc nL rt ini R mc ms Post pc L (va_rf ry :: va_rf rx :: st) h k n := by
  subst hp
  intro p e s m args below meth c E H locs ls hR hlo hl
  obtain ⟨hx, hb, hml, hown, hts, hr, hlk, hin, hK⟩ := id E
  exact lv_acmp_ne hx hb hd ht (fun z => kt z p e s m args below meth c E H locs ls hR hlo hl) (fun z => kf z p e s m args below meth c E H locs ls hR hlo hl)
theorem V_goto {off : Int} {tgt : Nat} (hd : decode cc pc = .ok (.goto off, 3)) (ht : (pc : Int) + off = (tgt : Int)) (kk : V x own cc nL rt ini R mc ms Post tgt L st h k n) : V x own cc nL rt ini R mc ms Post pc L st h k n := by
  intro p e s m args below meth c E H locs ls hR hlo hl
  obtain ⟨hx, hb, hml, hown, hts, hr, hlk, hin, hK⟩ := id E
  exact lv_goto hx hb hd ht (kk p e s m args below meth c E H locs ls hR hlo hl)
theorem V_ifnull {r : Option Nat} {off : Int} {tgt : Nat} (hd : decode cc pc = .ok (.ifnull off, 3)) (ht : (pc : Int) + off = (tgt : Int)) (hp : pc + 3 = pc') (kt : r = none → V x own cc nL rt ini R mc ms Post tgt L st h k n) (kf : ∀ a, r = some a → V x own cc nL rt ini R mc ms Post pc' L st h k n) : V x own cc nL rt ini R mc ms Post pc L (va_rf r :: st) h k n := by
  subst hp
  intro p e s m args below meth c E H locs ls hR hlo hl
  obtain ⟨hx, hb, hml, hown, hts, hr, hlk, hin, hK⟩ := id E
  cases r with
  | none => exact lv_ifnullN hx hb hd ht (kt rfl p e s m args below meth c E H locs ls hR hlo hl)
  | some a => exact lv_ifnull hx hb hd (kf a rfl p e s m args below meth c E H locs ls hR hlo hl)
theorem V_ifnonnull {r : Option Nat} {off : Int} {tgt : Nat} (hd : decode cc pc = .ok (.ifnonnull off, 3)) (ht : (pc : Int) + off = (tgt : Int)) (hp : pc + 3 = pc') (kt : ∀ a, r = some a → V x own cc nL rt ini R mc ms Post tgt L st h k n) (kf : r = none → V x own cc nL rt ini R mc ms Post pc' L st h k n) : V x own cc nL rt ini R mc ms Post pc L (va_rf r :: st) h k n := by
  subst hp
  intro p e s m args below meth c E H locs ls hR hlo hl
  obtain ⟨hx, hb, hml, hown, hts, hr, hlk, hin, hK⟩ := id E
  cases r with
  | none => exact lv_ifnonnullN hx hb hd (kf rfl p e s m args below meth c E H locs ls hR hlo hl)
  | some a => exact lv_ifnonnull hx hb hd ht (kt a rfl p e s m args below meth c E H locs ls hR hlo hl)
theorem V_tableOut {dflt lo hi : Int} {offs : Array Int} {len : Nat} {x1 : Int32} {tgt : Nat} (hd : decode cc pc = .ok (.tableswitch dflt lo hi offs, len)) (hz : x1.toInt < lo ∨ hi < x1.toInt) (ht : (pc : Int) + dflt = (tgt : Int)) (kk : V x own cc nL rt ini R mc ms Post tgt L st h k n) : V x own cc nL rt ini R mc ms Post pc L (.int x1 :: st) h k n := by
  intro p e s m args below meth c E H locs ls hR hlo hl
  obtain ⟨hx, hb, hml, hown, hts, hr, hlk, hin, hK⟩ := id E
  exact lv_tableOut hx hb hd hz ht (kk p e s m args below meth c E H locs ls hR hlo hl)
theorem V_tableIn {dflt lo hi : Int} {offs : Array Int} {len : Nat} {x1 : Int32} {off : Int} {tgt : Nat} (hd : decode cc pc = .ok (.tableswitch dflt lo hi offs, len)) (h1 : ¬ x1.toInt < lo) (h2 : ¬ hi < x1.toInt) (ho : offs[(x1.toInt - lo).toNat]? = some off) (ht : (pc : Int) + off = (tgt : Int)) (kk : V x own cc nL rt ini R mc ms Post tgt L st h k n) : V x own cc nL rt ini R mc ms Post pc L (.int x1 :: st) h k n := by
  intro p e s m args below meth c E H locs ls hR hlo hl
  obtain ⟨hx, hb, hml, hown, hts, hr, hlk, hin, hK⟩ := id E
  exact lv_tableIn hx hb hd h1 h2 ho ht (kk p e s m args below meth c E H locs ls hR hlo hl)
theorem V_lookup {dflt : Int} {ps : Array (Int × Int)} {len : Nat} {x1 : Int32} {off : Int} {tgt : Nat} (hd : decode cc pc = .ok (.lookupswitch dflt ps, len)) (hs : (ps.toList.zip (ps.toList.drop 1)).all (fun (a, next) => a.1 < next.1) = true) (ho : Op.lookupswitch.offset ps.toList dflt x1.toInt = off) (ht : (pc : Int) + off = (tgt : Int)) (kk : V x own cc nL rt ini R mc ms Post tgt L st h k n) : V x own cc nL rt ini R mc ms Post pc L (.int x1 :: st) h k n := by
  intro p e s m args below meth c E H locs ls hR hlo hl
  obtain ⟨hx, hb, hml, hown, hts, hr, hlk, hin, hK⟩ := id E
  exact lv_lookup hx hb hd hs ho ht (kk p e s m args below meth c E H locs ls hR hlo hl)
theorem V_eq {st' : List Value} {L' : List (Nat × Value)} {h' : AH} (h1 : L = L') (h2 : st = st') (h3 : h = h') (kk : V x own cc nL rt ini R mc ms Post pc L' st' h' k n) : V x own cc nL rt ini R mc ms Post pc L st h k n := by
  subst h1; subst h2; subst h3; exact kk
def subL : List (Nat × Value) → List (Nat × Value) → Prop
  | [], _ => True
  | q :: r, l => lget l q.1 = some q.2 ∧ subL r l
theorem subL_mem : ∀ {l' l : List (Nat × Value)}, subL l' l → ∀ q ∈ l', q ∈ l
  | [], _, _, q, hq => by cases hq
  | a :: r, l, hs, q, hq => by
    rcases List.mem_cons.mp hq with rfl | hq
    · exact lget_mem hs.1
    · exact subL_mem hs.2 q hq
theorem V_L (L' : List (Nat × Value)) (hs : subL L' L) (kk : V x own cc nL rt ini R mc ms Post pc L' st h k n) : V x own cc nL rt ini R mc ms Post pc L st h k n := by
  intro p e s m args below meth c E H locs ls hR hlo hl
  obtain ⟨hx, hb, hml, hown, hts, hr, hlk, hin, hK⟩ := id E
  exact kk p e s m args below meth c E H locs ls hR hlo ⟨hl.1, hl.2.1, fun q hq => hl.2.2 q (subL_mem hs q hq)⟩
theorem V_widen (k' n' : Nat) (h1 : k ≤ k') (h2 : n ≤ n') (kk : V x own cc nL rt ini R mc ms Post pc L st h k' n') : V x own cc nL rt ini R mc ms Post pc L st h k n := by
  intro p e s m args below meth c E H locs ls hR hlo hl
  obtain ⟨hx, hb, hml, hown, hts, hr, hlk, hin, hK⟩ := id E
  exact W.widen h1 h2 (kk p e s m args below meth c E H locs ls hR hlo hl)
end VR
