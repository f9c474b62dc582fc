-- the frame, 3: more rules
section V3
variable {x : CX} {own : String} {cc : ByteArray} {nL : Nat} {rt : Option FieldType} {ini : Bool} {R : Room} {mc ms : Nat} {Post : Option Value → AH → Prop} {pc pc' : Nat} {L : List (Nat × Value)} {st : List Value} {h : AH} {k n : Nat}
theorem V_iincN {i j : Nat} (hd : decode cc pc = .ok (.iinc i 1, 3)) (hL : lget L i = some (.int (nI j))) (hn : i < nL) (hp : pc + 3 = pc') (kk : V x own cc nL rt ini R mc ms Post pc' (lset1 i (.int (nI (j + 1))) L) st h k n) : V x own cc nL rt ini R mc ms Post pc L st h k n :=
  V_iinc hd hL (nI_1 j) hn hp kk
theorem V_irem {x1 y1 : Int32} (hd : decode cc pc = .ok (.irem, 1)) (hne : ¬ y1 = 0) (hp : pc + 1 = pc') (kk : V x own cc nL rt ini R mc ms Post pc' L (.int (x1 - x1 / y1 * y1) :: st) h k n) : V x own cc nL rt ini R mc ms Post pc L (.int y1 :: .int x1 :: st) h k n := by
  subst hp
  intro p e s m args below meth c E H locs ls hR hlo hl
  obtain ⟨hx, hb, hml, hown, hts, hr, hlk, hin, hK⟩ := id E
  exact lv_irem hx hb hd hne (kk p e s m args below meth c E H locs ls hR hlo hl)
theorem V_zast {a i j : Nat} {vs : List Value} {v0 : Value} {v z : Int32} (hd : decode cc pc = .ok (.bastore, 1)) (hp : pc + 1 = pc') (hc : h.2 a = some (50 + i, vs)) (hi : atys[i]? = some .boolean) (hz : z = nI j) (hj : j < 2 ^ 31) (hv : vs[j]? = some v0) (hnar : narrow .boolean (.int v) = .int v) (kk : V x own cc nL rt ini R mc ms Post pc' L st (aset h a (50 + i, vs.set j (.int v))) k n) : V x own cc nL rt ini R mc ms Post pc L (.int v :: .int z :: .ref a :: st) h k n := by
  subst hp; subst hz
  intro p e s m args below meth c E H locs ls hR hlo hl
  obtain ⟨hx, hb, hml, hown, hts, hr, hlk, hin, hK⟩ := id E
  refine W.zast hx hb (hR.arr hc) (lc_arr hK hi) (fun q => by cases q) (lc_in hj hv) rfl rfl hd fun H' e1 e2 e3 => ?_
  rw [nI_clamp hj] at e1
  rw [hnar] at e1
  obtain ⟨g1, g2⟩ := st_fin hR hlo hc e1 e2 e3 (nI j).toNatClampNeg
  exact kk p e s m args below meth c E H' _ ls g1 g2 hl
end V3
-- a contract that only reads
def Cr (x : CX) (y : MethodName) (cc : ByteArray) (nL : Nat) (rt : Option FieldType) (d : Nat) (av : List Value) (h : AH) (v : Value) : Prop := Ct x y cc nL rt d 0 0 av h (fun r h' => r = some v ∧ h = h')
def ob (b : Bool) : Int32 := if b then 1 else 0
theorem ob_nar (b : Bool) : narrow .boolean (.int (ob b)) = .int (ob b) := by cases b <;> rfl
theorem ob_fit (b : Bool) : fits .boolean (.int (ob b)) = true := by cases b <;> rfl
theorem ob_0 {b : Bool} : ob b = 0 ↔ b = false := by cases b <;> simp [ob]
theorem ob_t : ob true = 1 := rfl
theorem ob_f : ob false = 0 := rfl
def oI : Option Nat → Int32
  | none => -1
  | some i => nI i
theorem oI_n : oI none = -1 := rfl
theorem oI_s (i : Nat) : oI (some i) = nI i := rfl
def arv (n : Nat) (g : Nat → Value) : List Value := (List.range n).map g
theorem arv_get {n j : Nat} {g : Nat → Value} (hj : j < n) : (arv n g)[j]? = some (g j) := by simp [arv, hj]
theorem arv_set {n j : Nat} {g : Nat → Value} {v : Value} : (arv n g).set j v = arv n (fun i => if i = j then v else g i) := by
  unfold arv
  apply List.ext_getElem?
  intro i
  rw [List.getElem?_set]
  by_cases hij : j = i
  · subst hij
    by_cases hj : j < n
    · simp [hj]
    · simp [hj]
  · rw [if_neg hij]
    by_cases hi : i < n
    · simp [hi, Ne.symm hij]
    · simp [hi]
theorem arv_len (n : Nat) (g : Nat → Value) : (arv n g).length = n := by simp [arv]
theorem arv_rep (n : Nat) (v : Value) : List.replicate n v = arv n (fun _ => v) := by
  apply List.ext_getElem?
  intro i
  by_cases hi : i < n
  · simp [arv, hi]
  · simp [arv, hi]
theorem arv_congr {n : Nat} {g g' : Nat → Value} (h : ∀ i, i < n → g i = g' i) : arv n g = arv n g' := by
  apply List.map_congr_left
  intro i hi
  exact h i (List.mem_range.mp hi)
theorem nar_rf {C : String} (r : Option Nat) : narrow (.object C) (va_rf r) = va_rf r := by cases r <;> rfl
theorem fits_rf {C : String} (r : Option Nat) : fits (.object C) (va_rf r) = true := by cases r <;> rfl
theorem V_ex {x : CX} {own : String} {cc : ByteArray} {nL : Nat} {rt : Option FieldType} {ini : Bool} {R : Room} {mc ms : Nat} {Post : Option Value → AH → Prop} {pc : Nat} {L : List (Nat × Value)} {st : List Value} {h : AH} {k n : Nat} (P : AH → Prop) (hP : P h) (kk : ∀ g, P g → V x own cc nL rt ini R mc ms Post pc L st g k n) : V x own cc nL rt ini R mc ms Post pc L st h k n := kk h hP
-- stores that keep the slot ahead
def lset0 (i : Nat) (v : Value) (l : List (Nat × Value)) : List (Nat × Value) := lins i v (l.filter (fun q => !(q.1 == i)))
theorem lset0_has {ls : Array Slot} {nL i : Nat} {v : Value} {l : List (Nat × Value)} (hk : ∀ q ∈ l, q.1 + 1 = i → q.2.category = 1) (h : lv_has ls nL (lset1 i v l)) : lv_has ls nL (lset0 i v l) := by
  have mem1 : ∀ (r : List (Nat × Value)) (q : Nat × Value), (q = (i, v) ∨ q ∈ r) → q ∈ lins i v r := by
    intro r
    induction r with
    | nil =>
      intro q hq
      rcases hq with hq | hq
      · rw [hq]; exact List.mem_singleton.mpr rfl
      · cases hq
    | cons a r ih =>
      intro q hq
      rw [lins]
      split
      · rcases hq with hq | hq
        · rw [hq]; exact List.mem_cons_self
        · exact List.mem_cons_of_mem _ hq
      · rcases hq with hq | hq
        · exact List.mem_cons_of_mem _ (ih q (Or.inl hq))
        · rcases List.mem_cons.mp hq with hq | hq
          · rw [hq]; exact List.mem_cons_self
          · exact List.mem_cons_of_mem _ (ih q (Or.inr hq))
  refine ⟨h.1, h.2.1, fun q hq => h.2.2 q (mem1 _ q ?_)⟩
  rcases lins_mem hq with hq | hq
  · exact Or.inl hq
  · refine Or.inr ?_
    obtain ⟨a, b⟩ := List.mem_filter.mp hq
    refine List.mem_filter.mpr ⟨a, ?_⟩
    have hb : ¬ q.1 = i := by simpa using b
    by_cases e : q.1 + 1 = i
    · have := hk q a e
      simp [hb, this]
    · simp [hb, e]
section VK
variable {x : CX} {own : String} {cc : ByteArray} {nL : Nat} {rt : Option FieldType} {ini : Bool} {R : Room} {mc ms : Nat} {Post : Option Value → AH → Prop} {pc pc' : Nat} {L : List (Nat × Value)} {st : List Value} {h : AH} {k n : Nat}
theorem V_keep {i : Nat} {v : Value} (hk : ∀ q ∈ L, q.1 + 1 = i → q.2.category = 1) (kk : V x own cc nL rt ini R mc ms Post pc (lset0 i v L) st h k n) : V x own cc nL rt ini R mc ms Post pc (lset1 i v L) st h k n := by
  intro p e s m args below meth c E H locs ls hR hlo hl
  exact kk p e s m args below meth c E H locs ls hR hlo (lset0_has hk hl)
end VK
theorem va_rf_cat (r : Option Nat) : (va_rf r).category = 1 := by cases r <;> rfl
