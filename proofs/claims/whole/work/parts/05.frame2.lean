-- the frame, 2: fields, arrays, makings, calls, ends
def rmd (d mc ms : Nat) : Room := { frames := d, cells := mc, slots := ms, locals := 40 * d }
def Ct (x : CX) (y : MethodName) (cc : ByteArray) (nL : Nat) (rt : Option FieldType) (d mc ms : Nat) (av : List Value) (h : AH) (Post : Option Value → AH → Prop) : Prop :=
  Met (cxl x) y (Cond.code y cc nL rt :: gtbl) (rmd d mc ms) (fun a U => a = av.toArray ∧ Rel x h U.heap ∧ Kn x U) (Qp x Post) mc ms (fun q => cxb x ≤ q)
theorem Ct_of {x : CX} {y : MethodName} {cc : ByteArray} {nL : Nat} {rt : Option FieldType} {d mc ms : Nat} {av : List Value} {h : AH} {Post : Option Value → AH → Prop} {own : String} {ini : Bool} (hy : plainName y.cls = true) (ho : y.cls = own) (hz : (lg_sl av).length ≤ nL) (hi : ini = true → y.name = "<init>")
    (hV : V x own cc nL rt ini (rmd d mc ms) mc ms Post 0 (lv_args 0 av) [] h 0 0) : Ct x y cc nL rt d mc ms av h Post := by
  subst ho
  refine Met.ofW (cc := cc) (maxL := nL) (ret := rt) hy rfl ?_
  intro p e s m args below meth c s₁ B hml hv
  obtain ⟨rfl, hR, hK⟩ := hv
  rw [lg_entry_eq]
  have hts := atoms_spec (ws := Cond.code y cc nL rt :: gtbl) B.pre
  exact hV p e s m _ below meth c ⟨B.exec, B.bytes, hml, findClass_of_methodNamed B.named, fun w hw => hts w (List.mem_cons_of_mem _ hw), B.returns, B.notSynchronized, fun q => ((name_of_methodNamed B.named B.method).1).trans (hi q), hK⟩ s.heap [] _ hR (fun q hq => by cases hq) (lv_entry av hz)
theorem Ct.weak {x : CX} {y : MethodName} {cc : ByteArray} {nL : Nat} {rt : Option FieldType} {d mc ms : Nat} {av : List Value} {h : AH} {Post Post2 : Option Value → AH → Prop} (hC : Ct x y cc nL rt d mc ms av h Post) (hp : ∀ r h', Post r h' → Post2 r h') : Ct x y cc nL rt d mc ms av h Post2 := by
  intro p e ha hc hk s m args below hf happ hP hT
  obtain ⟨k, o, h1, h2, h3, ⟨r, h', q1, q2, q3⟩, h4⟩ := hC p e ha hc hk s m args below hf happ hP hT
  exact ⟨k, o, h1, h2, h3, ⟨r, h', q1, hp r h' q2, q3⟩, h4⟩
theorem goodTbl (w : Cond) (hw : w ∈ gtbl) : goodWord w = true := (List.mem_filter.mp hw).2
theorem goodIn_t {c0 : Cond} (hc : c0 ∈ gtbl) : GoodIn gtbl (c0 :: gtbl) := by
  intro w hw
  rcases List.mem_cons.mp hw with rfl | hw
  · exact ⟨hc, good_of_word (goodTbl _ hc)⟩
  · exact ⟨hw, good_of_word (goodTbl _ hw)⟩
theorem cls_len : classes.length ≤ 50 := by decide
theorem cls_lt {ci : Nat} {q : vw_C} (h : classes[ci]? = some q) : ci < 50 := Nat.lt_of_lt_of_le (List.getElem?_eq_some_iff.mp h).1 cls_len
theorem cls_in {ci : Nat} {C : String} {T : u_T} {N : Nat} (h : classes[ci]? = some (C, T, N)) : ∀ w ∈ u_ws C T N, w ∈ gtbl := cls_lay _ (List.mem_of_getElem? h)
def fty (T : u_T) (k : Nat) : FieldType := (parseFieldDescriptor (T k).2.2.1).getD .int
theorem cls_t {ci : Nat} {C : String} {T : u_T} {N : Nat} (h : classes[ci]? = some (C, T, N)) : ∀ k, k < N → parseFieldDescriptor (T k).2.2.1 = some (fty T k) := by
  intro k hk
  have h1 := cls_ty _ (List.mem_of_getElem? h) k hk
  unfold fty
  cases hp : parseFieldDescriptor (T k).2.2.1 with
  | none => rw [hp] at h1; cases h1
  | some z => rfl
theorem cls_n {ci : Nat} {C : String} {T : u_T} {N : Nat} (h : classes[ci]? = some (C, T, N)) : ∀ a, a < N → ∀ b, b < N → a ≠ b → (T a).2.1 ≠ (T b).2.1 := cls_nm _ (List.mem_of_getElem? h)
theorem Rel.obj {x : CX} {h : AH} {H : Heap} {a ci : Nat} {fs : List Value} (hR : Rel x h H) (hc : h.2 a = some (ci, fs)) (hlt : ci < 50) : va_P (cxD x) classes [(a, .inr (ci, fs))] H := by
  intro k q hk
  have h1 := (hR.2.2.1 a _ hc).2
  unfold cel at h1
  rw [if_pos hlt] at h1
  have hz : k < 1 := (List.getElem?_eq_some_iff.mp hk).1
  rw [show k = 0 by omega] at hk
  cases hk
  exact h1
theorem Rel.arr {x : CX} {h : AH} {H : Heap} {a i : Nat} {vs : List Value} (hR : Rel x h H) (hc : h.2 a = some (50 + i, vs)) : H[a]? = some (lcell (cxA x i) vs) := by
  have h1 := (hR.2.2.1 a _ hc).2
  unfold cel at h1
  rw [if_neg (by show ¬ 50 + i < 50; omega)] at h1
  have e : 50 + i - 50 = i := by omega
  dsimp only at h1
  rw [e] at h1
  exact h1
/-- a field's link, from a class's constant: class number ci, field number kf -/
def FL (own : String) (idx ci kf : Nat) : Prop := ∃ (C : String) (T : u_T) (N : Nat), classes[ci]? = some (C, T, N) ∧ kf < N ∧ (Cond.fieldLink own idx (T kf).1 (T kf).2.1 (T kf).2.2.1 ∈ gtbl ∨ ∃ host, (own, idx, (T kf).1, (T kf).2.1, (T kf).2.2.1, host) ∈ nestF)
def FP (own : String) (idx ci kf : Nat) (ty : FieldType) : Prop := ∃ (C : String) (T : u_T) (N : Nat), classes[ci]? = some (C, T, N) ∧ kf < N ∧ (Cond.fieldLink own idx (T kf).1 (T kf).2.1 (T kf).2.2.1 ∈ gtbl ∨ ∃ host, (own, idx, (T kf).1, (T kf).2.1, (T kf).2.2.1, host) ∈ nestF) ∧ (T kf).2.2.2 = false ∧ parseFieldDescriptor (T kf).2.2.1 = some ty
def FF (own : String) (idx ci kf : Nat) (ty : FieldType) : Prop := ∃ (C : String) (T : u_T) (N : Nat), classes[ci]? = some (C, T, N) ∧ kf < N ∧ Cond.fieldLink own idx (T kf).1 (T kf).2.1 (T kf).2.2.1 ∈ gtbl ∧ (T kf).2.2.2 = true ∧ (T kf).1 = own ∧ parseFieldDescriptor (T kf).2.2.1 = some ty
/-- a method's link: y is called from own's constant idx; np parameters -/
def MW (y : MethodName) (cc : ByteArray) (nL : Nat) (rt : Option FieldType) (np : Nat) : Prop := Cond.code y cc nL rt ∈ gtbl ∧ Cond.initialized y.cls ∈ gtbl ∧ (y.cls ≠ "java/lang/invoke/MethodHandle" ∧ y.cls ≠ "java/lang/invoke/VarHandle") ∧ (parseMethodDescriptor y.desc).map (fun d => d.parameters.length) = some np
def MV (own : String) (idx : Nat) (y : MethodName) : Prop := (Cond.methodLink own idx y ∈ gtbl ∨ ∃ host, (own, idx, y, host) ∈ nestM) ∧ Cond.instanceMethod y ∈ gtbl ∧ Cond.selects y.cls y y ∈ gtbl
def MS (own : String) (idx : Nat) (y : MethodName) : Prop := (Cond.methodLink own idx y ∈ gtbl ∨ ∃ host, (own, idx, y, host) ∈ nestM) ∧ Cond.static y ∈ gtbl
def MI (own : String) (idx : Nat) (y : MethodName) : Prop := (Cond.methodLink own idx y ∈ gtbl ∨ ∃ host, (own, idx, y, host) ∈ nestM) ∧ Cond.instanceMethod y ∈ gtbl ∧ y.name = "<init>"
theorem V_cont {x : CX} {Post' : Option Value → AH → Prop} {p : Program} {e : Env} {R : Room} {s : State} {m : MethodId} {args : Array Value} {below : List Frame} {meth : Method} {c : Code} {H : Heap} {locs : List Loc} {k n mc' ms' pc : Nat} {ls : Array Slot} {st0 rest : List Value} {a : Array Value} {Q : State → Prop}
    (hr : va_Run p (cxl x) e R s m args below meth c H locs k n mc' ms' (F0 m pc ls st0) rest (Qp x Post' a) (fun q => cxb x ≤ q)) (hlo : ∀ q ∈ locs, cxb x ≤ q.base)
    (kk : ∀ (r : Option Value) (h' : AH) (H' : Heap) (locs' : List Loc), Post' r h' → Rel x h' H' → (∀ q ∈ locs', cxb x ≤ q.base) → W p (cxl x) e R s m args below meth c H' locs' (k + mc') (n + ms') Q (F0 m (pc + 3) ls (r.toList ++ rest))) : W p (cxl x) e R s m args below meth c H locs k n Q (F0 m pc ls st0) := by
  intro T hT X
  obtain ⟨v, st₀, t, T', L, h0, X', hL, e1, e2, ⟨r, h', hv, hp, hb⟩, st⟩ := hr T hT X
  cases hv
  obtain ⟨t2, a1, b1⟩ := kk _ h' T'.heap (locs ++ L) hp (by rw [e1]; exact hb) (fun q hq => by
    rcases List.mem_append.mp hq with h | h
    · exact hlo q h
    · exact hL q h) T' rfl X'
  exact ⟨t2, st t2 a1, b1⟩
theorem np_len {y : MethodName} {np l : Nat} (h : (parseMethodDescriptor y.desc).map (fun d => d.parameters.length) = some np) (hl : l = np) : ∀ sig, parseMethodDescriptor y.desc = some sig → np = sig.parameters.length := by
  intro sig hs
  rw [hs] at h
  exact (Option.some.inj h).symm
section VH
variable {x : CX} {own : String} {cc : ByteArray} {nL : Nat} {rt : Option FieldType} {ini : Bool} {R : Room} {mc ms : Nat} {Post : Option Value → AH → Prop} {pc pc' : Nat} {L : List (Nat × Value)} {st : List Value} {h : AH} {k n : Nat}
theorem V_getf {idx ci kf a : Nat} {fs : List Value} {v : Value} (hd : decode cc pc = .ok (.getfield idx, 3)) (hf : FL own idx ci kf) (hp : pc + 3 = pc') (hc : h.2 a = some (ci, fs)) (hv : fs[kf]? = some v) (kk : V x own cc nL rt ini R mc ms Post pc' L (v :: st) h k n) : V x own cc nL rt ini R mc ms Post pc L (.ref a :: st) h k n := by
  subst hp
  intro p e s m args below meth c E H locs ls hR hlo hl
  obtain ⟨hx, hb, hml, hown, hts, hr, hlk, hin, hK⟩ := id E
  obtain ⟨C, T, N, hcl, hk, hw⟩ := hf
  have hP := hR.obj hc (cls_lt hcl)
  rcases hw with hw | ⟨host, hw⟩
  · exact va_get (ws := [(a, .inr (ci, fs))]) hx hb hts (cls_in hcl) hown hK.1 hP 0 rfl hcl kf hk (hts _ hw) (fun _ q => q) hv hd (kk p e s m args below meth c E H locs ls hR hlo hl)
  · exact va_getN (ws := [(a, .inr (ci, fs))]) hx hb hts (cls_in hcl) hown hK.1 hP 0 rfl hcl kf hk (va_Nw.use rfl (hK.2.2.1 _ hw)) (fun _ q => q) hv hd (kk p e s m args below meth c E H locs ls hR hlo hl)
theorem V_putf {idx ci kf a : Nat} {fs : List Value} {v : Value} {ty : FieldType} (hd : decode cc pc = .ok (.putfield idx, 3)) (hf : FP own idx ci kf ty) (hp : pc + 3 = pc') (hc : h.2 a = some (ci, fs)) (hn : narrow ty v = v) (hft : fits ty v = true) (hlen : kf < fs.length) (kk : V x own cc nL rt ini R mc ms Post pc' L st (aset h a (ci, fs.set kf v)) k n) : V x own cc nL rt ini R mc ms Post pc L (v :: .ref a :: st) h k n := by
  subst hp
  intro p e s m args below meth c E H locs ls hR hlo hl
  obtain ⟨hx, hb, hml, hown, hts, hr, hlk, hin, hK⟩ := id E
  obtain ⟨C, T, N, hcl, hk, hw, hfin, hpd⟩ := hf
  have hP := hR.obj hc (cls_lt hcl)
  have hba : cxb x ≤ a := (hR.2.2.1 a _ hc).1
  have hap := va_apart (own := own) hts (cls_in hcl) (fty T) (cls_t hcl) (cls_n hcl) hK.1 hcl
  obtain ⟨r, h1, cell, q1, q2, q3, q4⟩ := hP 0 _ rfl
  have hr' : r = (C, T, N) := Option.some.inj (h1.symm.trans hcl)
  subst hr'
  obtain ⟨hS, hfc, kC, hkC, hkind⟩ := hK.1.1 ci _ hcl
  obtain ⟨cf, kf', fi, f, hi, hsl⟩ := hS kf hk
  have hlay := hts _ (cls_in hcl _ (u_in_lay hk))
  unfold u_lay at hlay
  rw [if_neg (by rw [hfin]; decide)] at hlay
  have hst := (u_facts hfc hkC (u_lays hts (cls_in hcl) hk) hi).1
  have h6 := u_store hfc hkC hkind hlay hi hpd hn hft
  have fin : ∀ H' : Heap, H'[a]? = some (cell.setSlot f.slot v) → H'.size = H.size → (∀ q : Nat, q ≠ a → H'[q]? = H[q]?) → W p (cxl x) e R s m args below meth c H' (locs ++ [⟨a, f.slot⟩]) k n (MQ below (Qp x Post) args s mc ms (fun q => cxb x ≤ q)) (F0 m (pc + 3) ls st) := by
    intro H' e1 e2 e3
    rw [hsl] at e1
    refine kk p e s m args below meth c E H' _ ls (hR.set hc ?_ e2 e3) (fun q hq => ?_) hl
    · unfold cel
      rw [if_pos (cls_lt hcl)]
      exact ⟨_, hcl, t_OB.to (V := updV (vp_V fs) kf v) ⟨_, e1, q2, q3, t_set q4 hap hk v⟩ (fun j _ => vp_updV_set hlen v j)⟩
    · rcases List.mem_append.mp hq with z | z
      · exact hlo q z
      · rw [List.mem_singleton.mp z]; exact hba
  rcases hw with hw | ⟨host, hw⟩
  · exact W.putK hx hb (f := f) ⟨hown, hts _ hw, ⟨_, _, _, hi⟩, hst⟩ (by rw [q2]; exact h6) q1 q3 (by rw [hsl]; exact k2_hasslot (q4 kf hk)) rfl rfl hd fin
  · exact va_WputK hx hb (f := f) hown (va_Nw.use rfl (hK.2.2.1 _ hw)) hi hst (by rw [q2]; exact h6) q1 q3 (by rw [hsl]; exact k2_hasslot (q4 kf hk)) rfl rfl hd fin
theorem V_putF {idx ci kf a : Nat} {fs : List Value} {v : Value} {ty : FieldType} (hd : decode cc pc = .ok (.putfield idx, 3)) (hf : FF own idx ci kf ty) (hi0 : ini = true) (hp : pc + 3 = pc') (hc : h.2 a = some (ci, fs)) (hn : narrow ty v = v) (hft : fits ty v = true) (hlen : kf < fs.length) (kk : V x own cc nL rt ini R mc ms Post pc' L st (aset h a (ci, fs.set kf v)) k n) : V x own cc nL rt ini R mc ms Post pc L (v :: .ref a :: st) h k n := by
  subst hp
  intro p e s m args below meth c E H locs ls hR hlo hl
  obtain ⟨hx, hb, hml, hown, hts, hr, hlk, hin, hK⟩ := id E
  obtain ⟨C, T, N, hcl, hk, hw, hfin, hdecl, hpd⟩ := hf
  have hP := hR.obj hc (cls_lt hcl)
  have hba : cxb x ≤ a := (hR.2.2.1 a _ hc).1
  have hap := va_apart (own := own) hts (cls_in hcl) (fty T) (cls_t hcl) (cls_n hcl) hK.1 hcl
  obtain ⟨r, h1, cell, q1, q2, q3, q4⟩ := hP 0 _ rfl
  have hr' : r = (C, T, N) := Option.some.inj (h1.symm.trans hcl)
  subst hr'
  obtain ⟨hS, hfc, kC, hkC, hkind⟩ := hK.1.1 ci _ hcl
  obtain ⟨cf, kf', fi, f, hi, hsl⟩ := hS kf hk
  have hlay := hts _ (cls_in hcl _ (u_in_lay hk))
  unfold u_lay at hlay
  rw [if_pos hfin] at hlay
  have hst := (u_facts hfc hkC (u_lays hts (cls_in hcl) hk) hi).1
  have hcf : m.cls = cf := by
    obtain ⟨_, _, c', _, _, _, -, -, hf', -, -, -, hown2, -⟩ := Cond.laysFinal_spec hlay
    have e1 : c' = cf := by have := hi.symm.trans hf'; simp at this; exact this.1.symm
    rw [hdecl] at hown2
    rw [← e1]; exact Option.some.inj (hown.symm.trans hown2)
  have h6 := u_fits hfc hkC hkind (Or.inr hlay) hi hpd hn hft
  refine W.putFinK hx hb hown (hts _ hw) hi hst hcf (hin hi0) (by rw [q2]; exact h6) q1 q3 (by rw [hsl]; exact k2_hasslot (q4 kf hk)) rfl rfl hd fun H' e1 e2 e3 => ?_
  rw [hsl] at e1
  refine kk p e s m args below meth c E H' _ ls (hR.set hc ?_ e2 e3) (fun q hq => ?_) hl
  · unfold cel
    rw [if_pos (cls_lt hcl)]
    exact ⟨_, hcl, t_OB.to (V := updV (vp_V fs) kf v) ⟨_, e1, q2, q3, t_set q4 hap hk v⟩ (fun j _ => vp_updV_set hlen v j)⟩
  · rcases List.mem_append.mp hq with z | z
    · exact hlo q z
    · rw [List.mem_singleton.mp z]; exact hba
/-- what 'new' makes -/
def NW (own : String) (idx ci N : Nat) (fs : List Value) : Prop := ∃ (C : String) (T : u_T), classes[ci]? = some (C, T, N) ∧ Cond.classLink own idx C ∈ gtbl ∧ Cond.instantiable C N ∈ gtbl ∧ Cond.initialized C ∈ gtbl ∧ ∀ j, j < N → defaultValue (fty T j) = vp_V fs j
theorem V_new {idx ci N : Nat} {fs : List Value} (hd : decode cc pc = .ok (.new idx, 3)) (hw : NW own idx ci N fs) (hp : pc + 3 = pc') (h1 : k + 1 ≤ R.cells) (h2 : n + N ≤ R.slots) (kk : V x own cc nL rt ini R mc ms Post pc' L (.ref h.1 :: st) (apush h (ci, fs)) (k + 1) (n + N)) : V x own cc nL rt ini R mc ms Post pc L st h k n := by
  subst hp
  intro p e s m args below meth c E H locs ls hR hlo hl
  obtain ⟨hx, hb, hml, hown, hts, hr, hlk, hin, hK⟩ := id E
  obtain ⟨C, T, hcl, hw1, hw2, hw3, hfs⟩ := hw
  have hKn := hK.1.1 ci _ hcl
  refine W.newcK hx hb hown (hts _ hw1) (hts _ hw2) (hts _ hw3) rfl hd h1 h2 hKn.2.1 rfl fun H1 kC hkC e1 z1 o1 => ?_
  have hs : H.size = h.1 := hR.1.symm
  rw [hs]
  refine kk p e s m args below meth c E H1 locs ls (hR.push ?_ z1 o1) hlo hl
  unfold cel
  rw [if_pos (cls_lt hcl)]
  rw [hs] at e1
  exact ⟨_, hcl, (u_born (fty T) hts (cls_in hcl) hKn hkC e1 (cls_t hcl)).to hfs⟩
theorem V_anew {idx i N : Nat} {C : String} {z : Int32} (hd : decode cc pc = .ok (.anewarray idx, 3)) (hw : Cond.classLink own idx C ∈ gtbl) (ho : C ∈ overs) (hi : atys[i]? = some (.object C)) (hz : z = nI N) (hN : N ≤ 65536) (hp : pc + 3 = pc') (h1 : k + 1 ≤ R.cells) (h2 : n + N ≤ R.slots) (kk : V x own cc nL rt ini R mc ms Post pc' L (.ref h.1 :: st) (apush h (50 + i, List.replicate N .null)) (k + 1) (n + N)) : V x own cc nL rt ini R mc ms Post pc L (.int z :: st) h k n := by
  subst hp; subst hz
  intro p e s m args below meth c E H locs ls hR hlo hl
  obtain ⟨hx, hb, hml, hown, hts, hr, hlk, hin, hK⟩ := id E
  have hc : (nI N).toNatClampNeg = N := nI_clamp (by omega)
  have hlt := (List.getElem?_eq_some_iff.mp hi).1
  have hty : aty i = .object C := by unfold aty; rw [List.getD_eq_getElem?_getD, hi]; rfl
  obtain ⟨kA0, comp0, g1, g2, g3, g4⟩ := (show va_RA s (cxA x i) (.object C) by rw [← hty]; exact (hK.2.1 i hlt).2)
  refine W.anew hx hb hown (hts _ hw) (va_AO.use (hK.2.2.2.2.1 C ho)) rfl hd rfl (nI_pos (by omega)) (by rw [hc]; omega) h1 (by rw [hc]; exact h2) fun cA kA comp f1 f2 f3 f4 => ?_
  have hA : cA = cxA x i := Option.some.inj (f1.symm.trans g4)
  subst hA
  rw [hc]
  have hs : H.size = h.1 := hR.1.symm
  rw [hs]
  refine kk p e s m args below meth c E _ locs ls (hR.push ?_ (by rw [Array.size_push]) (fun j hj => by rw [Array.getElem?_push, if_neg (Nat.ne_of_lt hj)])) hlo hl
  unfold cel
  rw [if_neg (by show ¬ 50 + i < 50; omega)]
  dsimp only
  rw [show 50 + i - 50 = i by omega, ← hs, Array.getElem?_push_size]
  simp [lcell]
theorem V_newl {i N : Nat} {at0 : ArrayType} {ty : FieldType} {z : Int32} (hd : decode cc pc = .ok (.newarray at0, 2)) (hty0 : newarray.typeOf at0 = ty) (hob : ∀ C, ty ≠ .object C) (hw : Cond.arrayClass ty ∈ gtbl) (hi : atys[i]? = some ty) (hz : z = nI N) (hN : N * componentBytes ty ≤ 536870912) (hN2 : N < 2 ^ 31) (hp : pc + 2 = pc') (h1 : k + 1 ≤ R.cells) (h2 : n + N ≤ R.slots) (kk : V x own cc nL rt ini R mc ms Post pc' L (.ref h.1 :: st) (apush h (50 + i, List.replicate N (defaultValue ty))) (k + 1) (n + N)) : V x own cc nL rt ini R mc ms Post pc L (.int z :: st) h k n := by
  subst hp; subst hz; subst hty0
  intro p e s m args below meth c E H locs ls hR hlo hl
  obtain ⟨hx, hb, hml, hown, hts, hr, hlk, hin, hK⟩ := id E
  have hc : (nI N).toNatClampNeg = N := nI_clamp (by omega)
  have hlt := (List.getElem?_eq_some_iff.mp hi).1
  have hty : aty i = newarray.typeOf at0 := by unfold aty; rw [List.getD_eq_getElem?_getD, hi]; rfl
  have g4 : s.vm.findClass ("[" ++ (newarray.typeOf at0).toString) = some (cxA x i) := by
    have h9 := (hK.2.1 i hlt).2
    rw [hty] at h9
    revert h9
    cases at0 <;> exact fun h9 => h9
  refine W.newa hx hb (hts _ hw) rfl hd rfl (nI_pos (by omega)) (by rw [hc]; omega) h1 (by rw [hc]; exact h2) fun cA kA comp f1 f2 f3 => ?_
  have hA : cA = cxA x i := Option.some.inj (f1.symm.trans g4)
  subst hA
  rw [hc]
  have hs : H.size = h.1 := hR.1.symm
  rw [hs]
  refine kk p e s m args below meth c E _ locs ls (hR.push ?_ (by rw [Array.size_push]) (fun j hj => by rw [Array.getElem?_push, if_neg (Nat.ne_of_lt hj)])) hlo hl
  unfold cel
  rw [if_neg (by show ¬ 50 + i < 50; omega)]
  dsimp only
  rw [show 50 + i - 50 = i by omega, ← hs, Array.getElem?_push_size]
  simp [lcell]
theorem lc_arr {s : State} {i : Nat} {ty : FieldType} {vs : List Value} (hK : Kn x s) (hi : atys[i]? = some ty) : s.isArrayOf (lcell (cxA x i) vs) ty := by
  have hlt := (List.getElem?_eq_some_iff.mp hi).1
  have hty : aty i = ty := by unfold aty; rw [List.getD_eq_getElem?_getD, hi]; rfl
  have h1 := (hK.2.1 i hlt).1 0 (fun _ => .null)
  rw [hty] at h1
  exact h1
theorem lc_in {cA : ClassId} {vs : List Value} {j : Nat} {v : Value} (hj : j < 2 ^ 31) (hv : vs[j]? = some v) : ¬ (nI j < 0 ∨ (lcell cA vs).slots.size ≤ (nI j).toNatClampNeg) := by
  rintro (q | q)
  · exact nI_pos hj q
  · rw [lcell_size, nI_clamp hj] at q
    have := (List.getElem?_eq_some_iff.mp hv).1
    omega
theorem V_aald {a i j : Nat} {vs : List Value} {C : String} {v : Value} {z : Int32} (hd : decode cc pc = .ok (.aaload, 1)) (hp : pc + 1 = pc') (hc : h.2 a = some (50 + i, vs)) (hi : atys[i]? = some (.object C)) (hz : z = nI j) (hj : j < 2 ^ 31) (hv : vs[j]? = some v) (kk : V x own cc nL rt ini R mc ms Post pc' L (v :: st) h k n) : V x own cc nL rt ini R mc ms Post pc L (.int z :: .ref a :: st) h k n := by
  subst hp; subst hz
  intro p e s m args below meth c E H locs ls hR hlo hl
  obtain ⟨hx, hb, hml, hown, hts, hr, hlk, hin, hK⟩ := id E
  exact W.aald (ty := .object C) hx hb (hR.arr hc) (lc_arr hK hi) rfl (fun q => by cases q) (lc_in hj hv) (by rw [lcell_read, nI_clamp hj]; exact hv) rfl rfl hd (kk p e s m args below meth c E H locs ls hR hlo hl)
theorem V_iald {a i j : Nat} {vs : List Value} {v : Value} {z : Int32} (hd : decode cc pc = .ok (.iaload, 1)) (hp : pc + 1 = pc') (hc : h.2 a = some (50 + i, vs)) (hi : atys[i]? = some .int) (hz : z = nI j) (hj : j < 2 ^ 31) (hv : vs[j]? = some v) (kk : V x own cc nL rt ini R mc ms Post pc' L (v :: st) h k n) : V x own cc nL rt ini R mc ms Post pc L (.int z :: .ref a :: st) h k n := by
  subst hp; subst hz
  intro p e s m args below meth c E H locs ls hR hlo hl
  obtain ⟨hx, hb, hml, hown, hts, hr, hlk, hin, hK⟩ := id E
  exact W.iald hx hb (hR.arr hc) (lc_arr hK hi) (fun q => by cases q) (lc_in hj hv) (by rw [lcell_read, nI_clamp hj]; exact hv) rfl rfl hd (kk p e s m args below meth c E H locs ls hR hlo hl)
theorem V_lald {a i j : Nat} {vs : List Value} {v : Value} {z : Int32} (hd : decode cc pc = .ok (.laload, 1)) (hp : pc + 1 = pc') (hc : h.2 a = some (50 + i, vs)) (hi : atys[i]? = some .long) (hz : z = nI j) (hj : j < 2 ^ 31) (hv : vs[j]? = some v) (kk : V x own cc nL rt ini R mc ms Post pc' L (v :: st) h k n) : V x own cc nL rt ini R mc ms Post pc L (.int z :: .ref a :: st) h k n := by
  subst hp; subst hz
  intro p e s m args below meth c E H locs ls hR hlo hl
  obtain ⟨hx, hb, hml, hown, hts, hr, hlk, hin, hK⟩ := id E
  exact W.lald hx hb (hR.arr hc) (lc_arr hK hi) (fun q => by cases q) (lc_in hj hv) (by rw [lcell_read, nI_clamp hj]; exact hv) rfl rfl hd (kk p e s m args below meth c E H locs ls hR hlo hl)
theorem V_zald {a i j : Nat} {vs : List Value} {v : Value} {z : Int32} (hd : decode cc pc = .ok (.baload, 1)) (hp : pc + 1 = pc') (hc : h.2 a = some (50 + i, vs)) (hi : atys[i]? = some .boolean) (hz : z = nI j) (hj : j < 2 ^ 31) (hv : vs[j]? = some v) (kk : V x own cc nL rt ini R mc ms Post pc' L (v :: st) h k n) : V x own cc nL rt ini R mc ms Post pc L (.int z :: .ref a :: st) h k n := by
  subst hp; subst hz
  intro p e s m args below meth c E H locs ls hR hlo hl
  obtain ⟨hx, hb, hml, hown, hts, hr, hlk, hin, hK⟩ := id E
  exact W.zald hx hb (hR.arr hc) (lc_arr hK hi) (fun q => by cases q) (lc_in hj hv) (by rw [lcell_read, nI_clamp hj]; exact hv) rfl rfl hd (kk p e s m args below meth c E H locs ls hR hlo hl)
theorem st_fin {i a j : Nat} {vs : List Value} {v : Value} {H H' : Heap} {locs : List Loc} (hR : Rel x h H) (hlo : ∀ q ∈ locs, cxb x ≤ q.base) (hc : h.2 a = some (50 + i, vs)) (e1 : H'[a]? = some ((lcell (cxA x i) vs).setSlot j v)) (e2 : H'.size = H.size) (e3 : ∀ q : Nat, q ≠ a → H'[q]? = H[q]?) (w : Nat) : Rel x (aset h a (50 + i, vs.set j v)) H' ∧ ∀ q ∈ locs ++ [⟨a, w⟩], cxb x ≤ q.base := by
  refine ⟨hR.set hc ?_ e2 e3, fun q hq => ?_⟩
  · unfold cel
    rw [if_neg (by show ¬ 50 + i < 50; omega)]
    dsimp only
    rw [show 50 + i - 50 = i by omega, e1, lcell_set]
  · rcases List.mem_append.mp hq with z | z
    · exact hlo q z
    · rw [List.mem_singleton.mp z]; exact (hR.2.2.1 a _ hc).1
theorem V_last {a i j : Nat} {vs : List Value} {v0 : Value} {v : Int64} {z : Int32} (hd : decode cc pc = .ok (.lastore, 1)) (hp : pc + 1 = pc') (hc : h.2 a = some (50 + i, vs)) (hi : atys[i]? = some .long) (hz : z = nI j) (hj : j < 2 ^ 31) (hv : vs[j]? = some v0) (kk : V x own cc nL rt ini R mc ms Post pc' L st (aset h a (50 + i, vs.set j (.long v))) k n) : V x own cc nL rt ini R mc ms Post pc L (.long v :: .int z :: .ref a :: st) h k n := by
  subst hp; subst hz
  intro p e s m args below meth c E H locs ls hR hlo hl
  obtain ⟨hx, hb, hml, hown, hts, hr, hlk, hin, hK⟩ := id E
  refine W.last hx hb (hR.arr hc) (lc_arr hK hi) (fun q => by cases q) (lc_in hj hv) rfl rfl hd fun H' e1 e2 e3 => ?_
  rw [nI_clamp hj] at e1
  obtain ⟨g1, g2⟩ := st_fin hR hlo hc e1 e2 e3 (nI j).toNatClampNeg
  exact kk p e s m args below meth c E H' _ ls g1 g2 hl
theorem V_iast {a i j : Nat} {vs : List Value} {v0 : Value} {v z : Int32} (hd : decode cc pc = .ok (.iastore, 1)) (hp : pc + 1 = pc') (hc : h.2 a = some (50 + i, vs)) (hi : atys[i]? = some .int) (hz : z = nI j) (hj : j < 2 ^ 31) (hv : vs[j]? = some v0) (kk : V x own cc nL rt ini R mc ms Post pc' L st (aset h a (50 + i, vs.set j (.int v))) k n) : V x own cc nL rt ini R mc ms Post pc L (.int v :: .int z :: .ref a :: st) h k n := by
  subst hp; subst hz
  intro p e s m args below meth c E H locs ls hR hlo hl
  obtain ⟨hx, hb, hml, hown, hts, hr, hlk, hin, hK⟩ := id E
  refine W.iast hx hb (hR.arr hc) (lc_arr hK hi) (fun q => by cases q) (lc_in hj hv) rfl rfl hd fun H' e1 e2 e3 => ?_
  rw [nI_clamp hj] at e1
  obtain ⟨g1, g2⟩ := st_fin hR hlo hc e1 e2 e3 (nI j).toNatClampNeg
  exact kk p e s m args below meth c E H' _ ls g1 g2 hl
theorem V_aastN {a i j : Nat} {vs : List Value} {v0 : Value} {C : String} {z : Int32} (hd : decode cc pc = .ok (.aastore, 1)) (hp : pc + 1 = pc') (hc : h.2 a = some (50 + i, vs)) (hi : atys[i]? = some (.object C)) (hz : z = nI j) (hj : j < 2 ^ 31) (hv : vs[j]? = some v0) (kk : V x own cc nL rt ini R mc ms Post pc' L st (aset h a (50 + i, vs.set j .null)) k n) : V x own cc nL rt ini R mc ms Post pc L (.null :: .int z :: .ref a :: st) h k n := by
  subst hp; subst hz
  intro p e s m args below meth c E H locs ls hR hlo hl
  obtain ⟨hx, hb, hml, hown, hts, hr, hlk, hin, hK⟩ := id E
  refine va_WaastN (C := C) hx hb (hR.arr hc) (lc_arr hK hi) (fun q => by cases q) (lc_in hj hv) rfl rfl hd fun H' e1 e2 e3 => ?_
  rw [nI_clamp hj] at e1
  obtain ⟨g1, g2⟩ := st_fin hR hlo hc e1 e2 e3 (nI j).toNatClampNeg
  exact kk p e s m args below meth c E H' _ ls g1 g2 hl
theorem V_aast {a i j b ci : Nat} {vs fs : List Value} {v0 : Value} {C : String} {T : u_T} {N : Nat} {z : Int32} (hd : decode cc pc = .ok (.aastore, 1)) (hp : pc + 1 = pc') (hc : h.2 a = some (50 + i, vs)) (hi : atys[i]? = some (.object C)) (hb2 : h.2 b = some (ci, fs)) (hcl : classes[ci]? = some (C, T, N)) (hz : z = nI j) (hj : j < 2 ^ 31) (hv : vs[j]? = some v0) (kk : V x own cc nL rt ini R mc ms Post pc' L st (aset h a (50 + i, vs.set j (.ref b))) k n) : V x own cc nL rt ini R mc ms Post pc L (.ref b :: .int z :: .ref a :: st) h k n := by
  subst hp; subst hz
  intro p e s m args below meth c E H locs ls hR hlo hl
  obtain ⟨hx, hb, hml, hown, hts, hr, hlk, hin, hK⟩ := id E
  obtain ⟨r', hr', cellV, g1, g2, g3, -⟩ := hR.obj hb2 (cls_lt hcl) 0 _ rfl
  have hcls := (hK.1.1 ci _ hcl).2
  have hlt := (List.getElem?_eq_some_iff.mp hi).1
  have hty : aty i = .object C := by unfold aty; rw [List.getD_eq_getElem?_getD, hi]; rfl
  obtain ⟨kA, comp, k1, k2, k3, -⟩ := (show va_RA s (cxA x i) (.object C) by rw [← hty]; exact (hK.2.1 i hlt).2)
  have hcomp : comp = (cxD x).1 ci := Option.some.inj (k3.symm.trans hcls.1)
  subst hcomp
  obtain ⟨kC, hkC, -⟩ := hcls.2
  refine W.aast hx hb (hR.arr hc) (fun q h => by cases h) (fun h => by cases h) k1 k2 rfl hkC ⟨nI_pos hj, by rw [lcell_size, nI_clamp hj]; exact (List.getElem?_eq_some_iff.mp hv).1⟩ g1 (fun q h => by rw [g3] at h; cases h) (by rw [g2]; exact hkC) (by rw [g2]; exact va_assign hcls) rfl rfl hd fun H' e1 e2 e3 => ?_
  rw [nI_clamp hj] at e1
  obtain ⟨g1, g2⟩ := st_fin hR hlo hc e1 e2 e3 (nI j).toNatClampNeg
  exact kk p e s m args below meth c E H' _ ls g1 g2 hl
-- the script
theorem V_slen (hd : decode cc pc = .ok (.arraylength, 1)) (hp : pc + 1 = pc') (kk : V x own cc nL rt ini R mc ms Post pc' L (.int (nI (cxn x)) :: st) h k n) : V x own cc nL rt ini R mc ms Post pc L (.ref (cxs x) :: st) h k n := by
  subst hp
  intro p e s m args below meth c E H locs ls hR hlo hl
  obtain ⟨hx, hb, hml, hown, hts, hr, hlk, hin, hK⟩ := id E
  obtain ⟨scr, h1, h2, h3, h4, h5⟩ := hK.2.2.2.2.2.1
  exact W.alen (n := nI (cxn x)) hx hb (by rw [hR.2.2.2 _ hK.2.2.2.2.2.2]; exact h1) h2 (by rw [h4] <;> rfl) rfl rfl hd (kk p e s m args below meth c E H locs ls hR hlo hl)
theorem V_sld {z : Int32} {j : Nat} (hd : decode cc pc = .ok (.iaload, 1)) (hp : pc + 1 = pc') (hz : z = nI j) (hj : j < 2 ^ 31) (hlt : j < cxn x) (kk : V x own cc nL rt ini R mc ms Post pc' L (.int (cxx x j) :: st) h k n) : V x own cc nL rt ini R mc ms Post pc L (.int z :: .ref (cxs x) :: st) h k n := by
  subst hp; subst hz
  intro p e s m args below meth c E H locs ls hR hlo hl
  obtain ⟨hx, hb, hml, hown, hts, hr, hlk, hin, hK⟩ := id E
  obtain ⟨scr, h1, h2, h3, h4, h5⟩ := hK.2.2.2.2.2.1
  refine W.iald (v := .int (cxx x j)) hx hb (by rw [hR.2.2.2 _ hK.2.2.2.2.2.2]; exact h1) h2 h3 ?_ (by rw [nI_clamp hj]; exact h5 _ hlt) rfl rfl hd (kk p e s m args below meth c E H locs ls hR hlo hl)
  rintro (q | q)
  · exact nI_pos hj q
  · rw [h4, nI_clamp hj] at q
    omega
-- ends
theorem V_iret {v : Int32} (hd : decode cc pc = .ok (.ireturn, 1)) (hrt : rt = some .int) (h1 : k ≤ mc) (h2 : n ≤ ms) (hP : Post (some (.int v)) h) : V x own cc nL rt ini R mc ms Post pc L [.int v] h k n := by
  subst hrt
  intro p e s m args below meth c E H locs ls hR hlo hl
  obtain ⟨hx, hb, hml, hown, hts, hr, hlk, hin, hK⟩ := id E
  refine W.widen h1 h2 ?_
  exact W.iret hx hb hr (fun t ht hW => ⟨_, h, rfl, hP, by rw [ht]; exact hR⟩) hlo hd
theorem V_zret {v : Int32} (hd : decode cc pc = .ok (.ireturn, 1)) (hrt : rt = some .boolean) (hn : narrow .boolean (.int v) = .int v) (h1 : k ≤ mc) (h2 : n ≤ ms) (hP : Post (some (.int v)) h) : V x own cc nL rt ini R mc ms Post pc L [.int v] h k n := by
  subst hrt
  intro p e s m args below meth c E H locs ls hR hlo hl
  obtain ⟨hx, hb, hml, hown, hts, hr, hlk, hin, hK⟩ := id E
  refine W.widen h1 h2 ?_
  exact W.zret hx hb hr hn (fun t ht hW => ⟨_, h, rfl, hP, by rw [ht]; exact hR⟩) hlo hd
theorem V_lret {v : Int64} (hd : decode cc pc = .ok (.lreturn, 1)) (hrt : rt = some .long) (h1 : k ≤ mc) (h2 : n ≤ ms) (hP : Post (some (.long v)) h) : V x own cc nL rt ini R mc ms Post pc L [.long v] h k n := by
  subst hrt
  intro p e s m args below meth c E H locs ls hR hlo hl
  obtain ⟨hx, hb, hml, hown, hts, hr, hlk, hin, hK⟩ := id E
  refine W.widen h1 h2 ?_
  exact W.lret hx hb hr (fun t ht hW => ⟨_, h, rfl, hP, by rw [ht]; exact hR⟩) hlo hd
theorem V_vret (hd : decode cc pc = .ok (.return_, 1)) (hrt : rt = none) (h1 : k ≤ mc) (h2 : n ≤ ms) (hP : Post none h) : V x own cc nL rt ini R mc ms Post pc L [] h k n := by
  subst hrt
  intro p e s m args below meth c E H locs ls hR hlo hl
  obtain ⟨hx, hb, hml, hown, hts, hr, hlk, hin, hK⟩ := id E
  refine W.widen h1 h2 ?_
  exact W.vret hx hb hr (fun t ht hW => ⟨_, h, rfl, hP, by rw [ht]; exact hR⟩) hlo hd
theorem V_aret {v : Value} {C : String} (hd : decode cc pc = .ok (.areturn, 1)) (hrt : rt = some (.object C)) (hv : isR v = true) (h1 : k ≤ mc) (h2 : n ≤ ms) (hP : Post (some v) h) : V x own cc nL rt ini R mc ms Post pc L [v] h k n := by
  subst hrt
  intro p e s m args below meth c E H locs ls hR hlo hl
  obtain ⟨hx, hb, hml, hown, hts, hr, hlk, hin, hK⟩ := id E
  refine W.widen h1 h2 ?_
  exact W.aret hx hb hr (Or.inl ⟨_, rfl⟩) (isR_or hv) (fun t ht hW => ⟨_, h, rfl, hP, by rw [ht]; exact hR⟩) hlo hd
-- calls
theorem pre_blind (x : CX) (h : AH) (av : List Value) : FrameBlind (fun a U => a = av.toArray ∧ Rel x h U.heap ∧ Kn x U) := fun a U g mk q => ⟨q.1, q.2.1, Kn.moved (s := U) (U := U.calling g mk a) (State.WarmedH.refl U) q.2.2⟩
theorem V_callV {idx : Nat} {y : MethodName} {ycc : ByteArray} {ynL np d' mc' ms' b ci : Nat} {yrt : Option FieldType} {As rest : List Value} {Post' : Option Value → AH → Prop} {fs : List Value} {T : u_T} {N : Nat} (hd : decode cc pc = .ok (.invokevirtual idx, 3)) (hv : MV own idx y) (hw : MW y ycc ynL yrt np) (hp : pc + 3 = pc') (hst : st = As.reverse ++ .ref b :: rest) (hn : As.length = np) (hcat : (rest.map fun v => v.category).sum ≤ 8) (hcl : classes[ci]? = some (y.cls, T, N)) (hc : h.2 b = some (ci, fs)) (hM : Ct x y ycc ynL yrt d' mc' ms' (.ref b :: As) h Post')
    (r1 : d' + 1 ≤ R.frames) (r2 : 8 + (ynL + 11) + 40 * d' ≤ R.locals) (r3 : k + mc' ≤ R.cells) (r4 : n + ms' ≤ R.slots) (kk : ∀ r h', Post' r h' → V x own cc nL rt ini R mc ms Post pc' L (r.toList ++ rest) h' (k + mc') (n + ms')) : V x own cc nL rt ini R mc ms Post pc L st h k n := by
  subst hp; subst hst
  intro p e s m args below meth c E H locs ls hR hlo hl
  obtain ⟨hx, hb, hml, hown, hts, hr, hlk, hin, hK⟩ := id E
  obtain ⟨w1, w2, w3, w4⟩ := hw
  have hpre : PreV s H y.cls b (fun a U => a = (Value.ref b :: As).toArray ∧ Rel x h U.heap ∧ Kn x U) As := ⟨pre_blind x h _, va_recv hK.1 (hR.obj hc (cls_lt hcl)) hcl (q0 := 0) rfl, fun U hU hW => ⟨rfl, by rw [hU]; exact hR, hK.moved hW⟩⟩
  refine V_cont (mc' := mc') (ms' := ms') (rest := rest) (a := (Value.ref b :: As).toArray) (Post' := Post') ?_ hlo (fun r h' H' locs' hP' hR' hlo' => kk r h' hP' p e s m args below meth c E H' locs' ls hR' hlo' hl)
  rcases hv.1 with hl1 | ⟨host, hl1⟩
  · exact va_runV (C := y.cls) (As := As) (rest := rest) ⟨hx, hb, hml, hown, hts⟩ hM ⟨⟨rfl, rfl, r1, r2, pay_in hts (goodIn_t w1), List.mem_cons_self, hts _ w1, hts _ w2, w3, np_len w4 hn, hts _ hl1⟩, hts _ hv.2.1, hts _ hv.2.2⟩ hpre rfl hn hl.1 rfl (lv_room hcat) hd ⟨r3, r4⟩
  · exact va_runVN (C := y.cls) (host := host) (As := As) (rest := rest) ⟨hx, hb, hml, hown, hts⟩ hM ⟨⟨⟨rfl, rfl, r1, r2, pay_in hts (goodIn_t w1), List.mem_cons_self⟩, hts _ w1, hts _ w2, w3, np_len w4 hn, va_Nw.use rfl (hK.2.2.2.1 _ hl1)⟩, hts _ hv.2.1, hts _ hv.2.2⟩ hpre rfl hn hl.1 rfl (lv_room hcat) hd ⟨r3, r4⟩
theorem V_callS {idx : Nat} {y : MethodName} {ycc : ByteArray} {ynL np d' mc' ms' : Nat} {yrt : Option FieldType} {As rest : List Value} {Post' : Option Value → AH → Prop} (hd : decode cc pc = .ok (.invokestatic idx, 3)) (hv : MS own idx y) (hw : MW y ycc ynL yrt np) (hp : pc + 3 = pc') (hst : st = As.reverse ++ rest) (hn : As.length = np) (hcat : (rest.map fun v => v.category).sum ≤ 8) (hM : Ct x y ycc ynL yrt d' mc' ms' As h Post')
    (r1 : d' + 1 ≤ R.frames) (r2 : 8 + (ynL + 11) + 40 * d' ≤ R.locals) (r3 : k + mc' ≤ R.cells) (r4 : n + ms' ≤ R.slots) (kk : ∀ r h', Post' r h' → V x own cc nL rt ini R mc ms Post pc' L (r.toList ++ rest) h' (k + mc') (n + ms')) : V x own cc nL rt ini R mc ms Post pc L st h k n := by
  subst hp; subst hst
  intro p e s m args below meth c E H locs ls hR hlo hl
  obtain ⟨hx, hb, hml, hown, hts, hr, hlk, hin, hK⟩ := id E
  obtain ⟨w1, w2, w3, w4⟩ := hw
  have hpre : PreS s H (fun a U => a = As.toArray ∧ Rel x h U.heap ∧ Kn x U) As := ⟨pre_blind x h _, fun U hU hW => ⟨rfl, by rw [hU]; exact hR, hK.moved hW⟩⟩
  refine V_cont (mc' := mc') (ms' := ms') (rest := rest) (a := As.toArray) (Post' := Post') ?_ hlo (fun r h' H' locs' hP' hR' hlo' => kk r h' hP' p e s m args below meth c E H' locs' ls hR' hlo' hl)
  rcases hv.1 with hl1 | ⟨host, hl1⟩
  · exact va_runS (As := As) (rest := rest) ⟨hx, hb, hml, hown, hts⟩ hM ⟨⟨rfl, rfl, r1, r2, pay_in hts (goodIn_t w1), List.mem_cons_self, hts _ w1, hts _ w2, w3, np_len w4 hn, hts _ hl1⟩, hts _ hv.2⟩ hpre rfl hn hl.1 rfl (lv_room hcat) hd ⟨r3, r4⟩
  · exact va_runSN (host := host) (As := As) (rest := rest) ⟨hx, hb, hml, hown, hts⟩ hM ⟨⟨⟨rfl, rfl, r1, r2, pay_in hts (goodIn_t w1), List.mem_cons_self⟩, hts _ w1, hts _ w2, w3, np_len w4 hn, va_Nw.use rfl (hK.2.2.2.1 _ hl1)⟩, hts _ hv.2, trivial⟩ hpre rfl hn hl.1 rfl (lv_room hcat) hd ⟨r3, r4⟩
theorem V_callI {idx : Nat} {y : MethodName} {ycc : ByteArray} {ynL np d' mc' ms' b : Nat} {As rest : List Value} {Post' : Option Value → AH → Prop} (hd : decode cc pc = .ok (.invokespecial idx, 3)) (hv : MI own idx y) (hw : MW y ycc ynL none np) (hp : pc + 3 = pc') (hst : st = As.reverse ++ .ref b :: rest) (hn : As.length = np) (hcat : (rest.map fun v => v.category).sum ≤ 8) (hM : Ct x y ycc ynL none d' mc' ms' (.ref b :: As) h Post')
    (r1 : d' + 1 ≤ R.frames) (r2 : 8 + (ynL + 11) + 40 * d' ≤ R.locals) (r3 : k + mc' ≤ R.cells) (r4 : n + ms' ≤ R.slots) (kk : ∀ r h', Post' r h' → V x own cc nL rt ini R mc ms Post pc' L (r.toList ++ rest) h' (k + mc') (n + ms')) : V x own cc nL rt ini R mc ms Post pc L st h k n := by
  subst hp; subst hst
  intro p e s m args below meth c E H locs ls hR hlo hl
  obtain ⟨hx, hb, hml, hown, hts, hr, hlk, hin, hK⟩ := id E
  obtain ⟨w1, w2, w3, w4⟩ := hw
  have hpre : PreS s H (fun a U => a = (Value.ref b :: As).toArray ∧ Rel x h U.heap ∧ Kn x U) (.ref b :: As) := ⟨pre_blind x h _, fun U hU hW => ⟨rfl, by rw [hU]; exact hR, hK.moved hW⟩⟩
  refine V_cont (mc' := mc') (ms' := ms') (rest := rest) (a := (Value.ref b :: As).toArray) (Post' := Post') ?_ hlo (fun r h' H' locs' hP' hR' hlo' => kk r h' hP' p e s m args below meth c E H' locs' ls hR' hlo' hl)
  rcases hv.1 with hl1 | ⟨host, hl1⟩
  · exact va_runI (As := As) (rest := rest) ⟨hx, hb, hml, hown, hts⟩ hM ⟨⟨rfl, rfl, r1, r2, pay_in hts (goodIn_t w1), List.mem_cons_self, hts _ w1, hts _ w2, w3, np_len w4 hn, hts _ hl1⟩, hv.2.2, hts _ hv.2.1⟩ hpre rfl hn hl.1 rfl (lv_room hcat) hd ⟨r3, r4⟩
  · exact va_runIN (host := host) (As := As) (rest := rest) ⟨hx, hb, hml, hown, hts⟩ hM ⟨⟨⟨rfl, rfl, r1, r2, pay_in hts (goodIn_t w1), List.mem_cons_self⟩, hts _ w1, hts _ w2, w3, np_len w4 hn, va_Nw.use rfl (hK.2.2.2.1 _ hl1)⟩, hv.2.2, hts _ hv.2.1⟩ hpre rfl hn hl.1 rfl (lv_room hcat) hd ⟨r3, r4⟩
theorem V_obj {idx a : Nat} (hd : decode cc pc = .ok (.invokespecial idx, 3)) (hw : Cond.methodLink own idx objectInit ∈ gtbl) (hp : pc + 3 = pc') (hcat : (st.map fun v => v.category).sum ≤ 8) (r1 : 1 ≤ R.frames) (r2 : 20 ≤ R.locals) (kk : V x own cc nL rt ini R mc ms Post pc' L st h k n) : V x own cc nL rt ini R mc ms Post pc L (.ref a :: st) h k n := by
  subst hp
  intro p e s m args below meth c E H locs ls hR hlo hl
  obtain ⟨hx, hb, hml, hown, hts, hr, hlk, hin, hK⟩ := id E
  refine W.objInit hx hb hown (hts _ hw) (hts _ obj_inst) (hts _ obj_code) rfl (by rw [hml]; exact hl.1) rfl hd r1 ?_ (kk p e s m args below meth c E H locs ls hR hlo hl)
  have := lv_room (m := m) (pc := pc) (ls := ls) (rest := .ref a :: st) hcat
  omega
end VH
