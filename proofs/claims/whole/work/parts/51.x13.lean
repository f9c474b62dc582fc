-- the class: insert, whole
theorem parS_ok {S : PS} {n kd p : Nat} {pos : Option Nat} (hpos : ∀ i, pos = some i → i < ssz S) (hb : 1 < n → sab S kd = spk S (n - 2)) (h : parS S n kd pos = some p) : p < ssz S ∧ sso S p = sab S kd ∧ sab S kd ≠ 0 := by
  unfold parS at h
  by_cases c : sab S kd = 0
  · rw [if_pos c] at h; cases h
  · rw [if_neg c] at h
    by_cases c2 : 1 < n
    · rw [if_pos c2] at h
      obtain ⟨a1, a2, a3⟩ := frst_some h
      refine ⟨a2, ?_, c⟩
      unfold fit at a3
      rw [Bool.and_eq_true, Bool.or_eq_true] at a3
      rw [hb c2]
      rcases a3.1 with z | z
      · have := of_decide_eq_true z; omega
      · have := of_decide_eq_true z
        rw [this, show n - 1 - 1 = n - 2 by omega]
    · rw [if_neg c2] at h
      cases hp : pos with
      | none => rw [hp] at h; cases h
      | some i =>
        rw [hp] at h
        obtain ⟨b1, b2, -⟩ := okd_lt h
        exact ⟨by have := hpos i hp; omega, b2, c⟩
theorem af_upc {S : PS} {v : Nat} {b : Bool} {m : Nat} : ∀ n, af (uhd (upc S m) v b) n = af S n
  | 0 => rfl
  | n + 1 => by rw [af, af, af_upc n]; rfl
section X13
variable {x : CX} {h h0 : AH} {o : Nat} {B B0 : XB} {S : PS}
set_option maxHeartbeats 8000000 in
theorem c_PC_insert (hX : IX h o B S) (hh : Hok h) (hw : WX S) (hSo : So S) (hp : PV S (spc S)) (hru : ∀ k, 1 ≤ k → k ≤ skc S → sru S k ≤ 2) (hlv : ∀ k, 1 ≤ k → k ≤ skc S → slv S k = if sab S k = 0 then 1 else slv S (sab S k) + 1) (hnd : ∀ i, i < ssz S → snm S i ≤ snd S) (view : Int32) (key val : Int64) : Ct x y_PC_insert b_PC_insert 11 (some .int) 6 1 4 [.ref o, .int view, .long key, .long val] h (PX h o B (insS S view key val)) := by
  have hJ : JX h h o B B S := ⟨hX, XF_rf hh⟩
  obtain ⟨ho, hka, hva, hpa, hba, hra, hpv, h8, h9, h10, h11, iv, ip, is⟩ := id hX
  obtain ⟨w1, w2, w3, w4, w5, w6, w7, w8, w9⟩ := id hw
  obtain ⟨v1, v2⟩ := id hp
  refine Ct_of (own := "PathCalls") (ini := false) rfl rfl (Nat.le_of_ble_eq_true rfl) (fun q => by cases q) ?_
  refine V_aload_n (pc' := 1) d_PC_insert_0 rfl (by first | rfl | exact isR_rf _) rfl ?_
  refine V_iload_n (pc' := 2) d_PC_insert_1 rfl rfl ?_
  -- at 2 invokevirtual
  refine V_callV (pc' := 5) (As := [_]) (ci := 0) d_PC_insert_2 mv_PC_67 mw_PC_viewNumbered rfl rfl rfl (by simp [Value.category]) rfl (by first | assumption | exact aset_self _ _ _ | exact apush_self _ _) (c_PC_viewNumbered hX w9 view) (by first | decide | omega) (by first | decide | omega) (by first | decide | omega) (by first | decide | omega) ?_
  rintro _ _ ⟨rfl, rfl⟩
  cases ek : ki (svc S) view with
  | none =>
    rw [show va_rf (vnr B (svc S) view) = .null from by unfold vnr; rw [ek]; rfl]
    refine V_astore (pc' := 7) d_PC_insert_5 (by first | rfl | exact isR_rf _) (by decide) rfl ?_
    first | refine V_L [(0, _), (1, _), (2, _), (4, _), (6, _)] ⟨rfl, rfl, rfl, rfl, rfl, trivial⟩ ?_ | (refine V_keep (by intro q hq e; simp only [List.mem_cons, List.not_mem_nil, or_false] at hq; rcases hq with rfl | rfl | rfl | rfl <;> first | rfl | exact va_rf_cat _ | exact absurd e (by first | decide | simp)) ?_; refine V_L [(0, _), (1, _), (2, _), (4, _), (6, _)] ⟨rfl, rfl, rfl, rfl, rfl, trivial⟩ ?_)
    refine V_aload (pc' := 9) d_PC_insert_7 rfl (by first | rfl | exact isR_rf _) rfl ?_
    refine V_ifnull (pc' := 12) (tgt := 22) (r := none) d_PC_insert_9 (by decide) rfl (fun c9 => ?_) (fun a9 c9 => ?_)
    · refine V_iconst (pc' := 23) (v := (-1)) d_PC_insert_22 (by decide) rfl ?_
      refine V_iret d_PC_insert_23 rfl (by first | decide | omega) (by first | decide | omega) ?_
      unfold insS
      rw [ek]; exact ⟨rfl, B, hJ⟩
    · cases c9
  | some v =>
    obtain ⟨e1, e2, e3⟩ := ki_some (by omega) ek
    subst e1
    rw [show va_rf (vnr B (svc S) (nI v)) = .ref (xv B v) from by unfold vnr; rw [ek]; rfl]
    refine V_astore (pc' := 7) d_PC_insert_5 (by first | rfl | exact isR_rf _) (by decide) rfl ?_
    first | refine V_L [(0, _), (1, _), (2, _), (4, _), (6, _)] ⟨rfl, rfl, rfl, rfl, rfl, trivial⟩ ?_ | (refine V_keep (by intro q hq e; simp only [List.mem_cons, List.not_mem_nil, or_false] at hq; rcases hq with rfl | rfl | rfl | rfl <;> first | rfl | exact va_rf_cat _ | exact absurd e (by first | decide | simp)) ?_; refine V_L [(0, _), (1, _), (2, _), (4, _), (6, _)] ⟨rfl, rfl, rfl, rfl, rfl, trivial⟩ ?_)
    refine V_aload (pc' := 9) d_PC_insert_7 rfl (by first | rfl | exact isR_rf _) rfl ?_
    refine V_ifnull (pc' := 12) (tgt := 22) (r := (some (xv B v))) d_PC_insert_9 (by decide) rfl (fun c9 => ?_) (fun a9 c9 => ?_)
    · cases c9
    · clear c9 a9
      refine V_aload_n (pc' := 13) d_PC_insert_12 rfl (by first | rfl | exact isR_rf _) rfl ?_
      refine V_getf (pc' := 16) d_PC_insert_13 fl_PC_30 rfl (by first | assumption | exact aset_self _ _ _ | exact apush_self _ _) (by rfl) ?_
      -- at 16 invokevirtual
      refine V_callV (pc' := 19) (As := []) (ci := 5) d_PC_insert_16 mv_PC_110 mw_Bs_isFull rfl rfl rfl (by simp [Value.category]) rfl (by first | assumption | exact aset_self _ _ _ | exact apush_self _ _) (c_Bs_isFull hX w7) (by first | decide | omega) (by first | decide | omega) (by first | decide | omega) (by first | decide | omega) ?_
      rintro _ _ ⟨rfl, rfl⟩
      refine V_if_eq (pc' := 22) (tgt := 24) d_PC_insert_19 (by decide) rfl (fun c19 => ?_) (fun c19 => ?_)
      · refine V_aload_n (pc' := 25) d_PC_insert_24 rfl (by first | rfl | exact isR_rf _) rfl ?_
        -- at 25 invokevirtual
        refine V_callV (pc' := 28) (As := []) (ci := 0) d_PC_insert_25 mv_PC_71 mw_PC_takeParts rfl rfl rfl (by simp [Value.category]) rfl (by first | assumption | exact aset_self _ _ _ | exact apush_self _ _) (c_PC_takeParts2 hJ) (by first | decide | omega) (by first | decide | omega) (by first | decide | omega) (by first | decide | omega) ?_
        rintro _ g1 ⟨rfl, hJ1, hg1⟩
        have hcv1 := hJ1.1.2.2.2.2.2.2.2.2.1 v e2 e3
        refine V_istore (pc' := 30) d_PC_insert_28 (by decide) rfl ?_
        first | refine V_L [(0, _), (1, _), (2, _), (4, _), (6, _), (7, _)] ⟨rfl, rfl, rfl, rfl, rfl, rfl, trivial⟩ ?_ | (refine V_keep (by intro q hq e; simp only [List.mem_cons, List.not_mem_nil, or_false] at hq; rcases hq with rfl | rfl | rfl | rfl | rfl <;> first | rfl | exact va_rf_cat _ | exact absurd e (by first | decide | simp)) ?_; refine V_L [(0, _), (1, _), (2, _), (4, _), (6, _), (7, _)] ⟨rfl, rfl, rfl, rfl, rfl, rfl, trivial⟩ ?_)
        refine V_aload (pc' := 32) d_PC_insert_30 rfl (by first | rfl | exact isR_rf _) rfl ?_
        refine V_iconst (pc' := 33) (v := 0) d_PC_insert_32 (by decide) rfl ?_
        refine V_putf (pc' := 36) d_PC_insert_33 fp_PC_75 rfl (by first | assumption | exact aset_self _ _ _ | exact apush_self _ _) (by first | rfl | exact ob_nar _ | exact nar_rf _) (by first | rfl | exact ob_fit _ | exact fits_rf _) (by exact Nat.le_of_ble_eq_true rfl) ?_
        refine V_ex (fun g => JX h g o B B (uhd (upc S 0) v false) ∧ g.1 = h.1) ⟨JX_hd hJ1 e2 e3 false, hg1⟩ (fun g2 hJ2g => ?_)
        obtain ⟨hJ2, hg2⟩ := hJ2g
        clear hJ1 hcv1 hg1 g1
        have hw2 : WX (uhd (upc S 0) v false) := hw
        have hSo2 : So (uhd (upc S 0) v false) := hSo
        have hp2 : PV (uhd (upc S 0) v false) (spc S) := hp
        have iBad : badI S = true → insS S (nI v) key val = (6, uhd (upc S 0) v false) := by
          intro h1
          unfold insS
          rw [ek]
          dsimp only
          rw [if_pos h1]
        have iGood : badI S = false → insS S (nI v) key val = insnS (uhd (upc S 0) v false) v (spc S) key val := by
          intro h1
          unfold insS
          rw [ek]
          dsimp only
          rw [if_neg (by rw [h1]; decide)]
        have ebad : ((spc S == 0 || !(af (uhd (upc S 0) v false) (spc S))) || (decide (1 < spc S) && !(sab S (spk S (spc S - 1)) == spk S (spc S - 2)))) = badI S := by
          rw [af_upc]; rfl
        have hru2 : ∀ k, 1 ≤ k → k ≤ skc (uhd (upc S 0) v false) → sru (uhd (upc S 0) v false) k ≤ 2 := hru
        have hlv2 : ∀ k, 1 ≤ k → k ≤ skc (uhd (upc S 0) v false) → slv (uhd (upc S 0) v false) k = if sab (uhd (upc S 0) v false) k = 0 then 1 else slv (uhd (upc S 0) v false) (sab (uhd (upc S 0) v false) k) + 1 := hlv
        have hnd2 : ∀ i, i < ssz (uhd (upc S 0) v false) → snm (uhd (upc S 0) v false) i ≤ snd (uhd (upc S 0) v false) := hnd
        have e32 : v ≤ svc (uhd (upc S 0) v false) := e3
        have ebad2 : badI S = false → 1 ≤ spc S ∧ (1 < spc S → sab (uhd (upc S 0) v false) (spk (uhd (upc S 0) v false) (spc S - 1)) = spk (uhd (upc S 0) v false) (spc S - 2)) := by
          intro h1
          unfold badI at h1
          rw [Bool.or_eq_false_iff, Bool.or_eq_false_iff] at h1
          refine ⟨?_, fun z => ?_⟩
          · rcases Nat.eq_zero_or_pos (spc S) with z | z
            · rw [z] at h1; cases h1.1.1
            · exact z
          · have h3 := h1.2
            rw [decide_eq_true z, Bool.true_and] at h3
            have h4 : (sab S (spk S (spc S - 1)) == spk S (spc S - 2)) = true := by
              cases e : (sab S (spk S (spc S - 1)) == spk S (spc S - 2)) with
              | true => rfl
              | false => rw [e] at h3; cases h3
            exact of_decide_eq_true h4
        change ((spc S == 0 || !(af (uhd (upc S 0) v false) (spc S))) || (decide (1 < spc S) && !(sab (uhd (upc S 0) v false) (spk (uhd (upc S 0) v false) (spc S - 1)) == spk (uhd (upc S 0) v false) (spc S - 2)))) = badI S at ebad
        generalize uhd (upc S 0) v false = S2 at *
        generalize spc S = n at *
        obtain ⟨ho2, hka2, hva2, hpa2, hba2, hra2, hpv2, h82, h92, h102, h112, iv2, ip2, is2⟩ := id hJ2.1
        obtain ⟨y1, y2, y3, y4, y5, y6, y7, y8, y9⟩ := id hw2
        obtain ⟨q1, q2⟩ := id hp2
        have hcv := h92 v e2 e32
        have hpos : ∀ i, plc S2 (spo S2 v) = some i → i < ssz S2 := fun i hi => (plc_lt hi).1
        refine V_aload_n (pc' := 37) d_PC_insert_36 rfl (by first | rfl | exact isR_rf _) rfl ?_
        refine V_iload (pc' := 39) d_PC_insert_37 rfl rfl ?_
        -- at 39 invokevirtual
        refine V_callV (pc' := 42) (As := [_]) (ci := 0) d_PC_insert_39 mv_PC_114 mw_PC_partsFitInsert rfl rfl rfl (by simp [Value.category]) rfl (by first | assumption | exact aset_self _ _ _ | exact apush_self _ _) (c_PC_partsFitInsert hJ2.1 hw2 hp2) (by first | decide | omega) (by first | decide | omega) (by first | decide | omega) (by first | decide | omega) ?_
        rintro _ _ ⟨rfl, rfl⟩
        rw [ebad]
        refine V_if_ne (pc' := 45) (tgt := 48) d_PC_insert_42 (by decide) rfl (fun c42 => ?_) (fun c42 => ?_)
        · have hb : badI S = false := by
            have := ob_nt c42
            cases e : badI S with
            | false => rfl
            | true => rw [e] at this; cases this
          obtain ⟨n1, n2⟩ := ebad2 hb
          have hres := iGood hb
          obtain ⟨k1, k2, k3, k4⟩ := q2 (n - 1) (by omega)
          have hcp := h102 (n - 1) (by omega)
          generalize ekd : spk S2 (n - 1) = kd at *
          have hkk := h82 kd k1 k2
          refine V_aload_n (pc' := 49) d_PC_insert_48 rfl (by first | rfl | exact isR_rf _) rfl ?_
          refine V_getf (pc' := 52) d_PC_insert_49 fl_PC_23 rfl (by first | assumption | exact aset_self _ _ _ | exact apush_self _ _) (by rfl) ?_
          refine V_iload (pc' := 54) d_PC_insert_52 rfl rfl ?_
          refine V_iconst (pc' := 55) (v := 1) d_PC_insert_54 (by decide) rfl ?_
          refine V_isub (pc' := 56) d_PC_insert_55 rfl ?_
          -- at 56 aaload
          refine V_aald (pc' := 57) d_PC_insert_56 rfl hpa2 rfl (pk_sub (a := n) (b := 1) n1) (by omega) (arv_get (by omega)) ?_
          refine V_getf (pc' := 60) d_PC_insert_57 fl_PC_117 rfl (by first | assumption | exact aset_self _ _ _ | exact apush_self _ _) (by rfl) ?_
          rw [ekd, kr_pos k1, show va_rf (some (xk B kd)) = .ref (xk B kd) from rfl]
          refine V_astore (pc' := 62) d_PC_insert_60 (by first | rfl | exact isR_rf _) (by decide) rfl ?_
          first | refine V_L [(0, _), (1, _), (2, _), (4, _), (6, _), (7, _), (8, _)] ⟨rfl, rfl, rfl, rfl, rfl, rfl, rfl, trivial⟩ ?_ | (refine V_keep (by intro q hq e; simp only [List.mem_cons, List.not_mem_nil, or_false] at hq; rcases hq with rfl | rfl | rfl | rfl | rfl | rfl <;> first | rfl | exact va_rf_cat _ | exact absurd e (by first | decide | simp)) ?_; refine V_L [(0, _), (1, _), (2, _), (4, _), (6, _), (7, _), (8, _)] ⟨rfl, rfl, rfl, rfl, rfl, rfl, rfl, trivial⟩ ?_)
          refine V_aload_n (pc' := 63) d_PC_insert_62 rfl (by first | rfl | exact isR_rf _) rfl ?_
          refine V_aload (pc' := 65) d_PC_insert_63 rfl (by first | rfl | exact isR_rf _) rfl ?_
          refine V_aload (pc' := 67) d_PC_insert_65 rfl (by first | rfl | exact isR_rf _) rfl ?_
          refine V_iload (pc' := 69) d_PC_insert_67 rfl rfl ?_
          refine V_iconst (pc' := 70) (v := 1) d_PC_insert_69 (by decide) rfl ?_
          refine V_isub (pc' := 71) d_PC_insert_70 rfl ?_
          rw [show nI n - 1 = nI (n - 1) from pk_sub (a := n) (b := 1) n1]
          refine V_callV (pc' := 74) (As := [_, _, _]) (ci := 0) d_PC_insert_71 mv_PC_121 mw_PC_parentForInsert rfl rfl rfl (by simp [Value.category]) rfl (by first | assumption | exact aset_self _ _ _ | exact apush_self _ _) (c_PC_parentForInsert (n := n) (kd := kd) hJ2.1 hw2 hSo2 e2 e32 hp2 n1 k1 k2 (fun z => by rw [n2 z]; have := (q2 (n - 2) (by omega)).1; omega)) (by first | decide | omega) (by first | decide | omega) (by first | decide | omega) (by first | decide | omega) ?_
          rintro _ _ ⟨rfl, rfl⟩
          generalize epos : plc S2 (spo S2 v) = pos at *
          have hpk := fun (p : Nat) (hp : parS S2 n kd pos = some p) => parS_ok hpos n2 hp
          have hins : insnS S2 v n key val = (if sab S2 kd ≠ 0 ∧ parS S2 n kd pos = none then (1, S2) else if scT S2 kd key (endS S2 (parS S2 n kd pos)) (ssz S2) (at0 S2 kd (parS S2 n kd pos)) = true ∧ sun S2 kd = true then (7, S2) else (0, insdS S2 v (at1 S2 kd key pos (parS S2 n kd pos)) kd key val)) := by
            unfold insnS
            rw [ekd, epos]
          generalize parS S2 n kd pos = q at *
          have hq : ∀ p, q = some p → p < ssz S2 := fun p hp => (hpk p hp).1
          have cut91 : ¬ (sab S2 kd ≠ 0 ∧ q = none) → V x "PathCalls" b_PC_insert 11 (Option.some .int) false (rmd 6 1 4) 1 4 (PX h o B (insS S (nI v) key val)) 91 [(0, .ref o), (1, .int (nI v)), (2, .long key), (4, .long val), (6, .ref (xv B v)), (7, .int (nI n)), (8, .ref (xk B kd)), (9, va_rf (rr B S2 q))] [] g2 0 0 := by
            intro hno
            rw [if_neg hno] at hins
            have hlq : slv S2 kd = lvq S2 q := by
              cases hq2 : q with
              | none =>
                have : sab S2 kd = 0 := by
                  rcases Nat.eq_zero_or_pos (sab S2 kd) with z | z
                  · exact z
                  · exact absurd ⟨by omega, hq2⟩ hno
                rw [hlv2 kd k1 k2, if_pos this]; rfl
              | some p =>
                obtain ⟨z1, z2, z3⟩ := hpk p hq2
                rw [hlv2 kd k1 k2, if_neg z3, ← z2]; rfl
            -- at 91 new
            refine V_new (pc' := 94) d_PC_insert_91 nw_PC_128 rfl (by first | decide | omega) (by first | decide | omega) ?_
            refine V_dup (pc' := 95) d_PC_insert_94 rfl rfl ?_
            refine V_aload (pc' := 97) d_PC_insert_95 rfl (by first | rfl | exact isR_rf _) rfl ?_
            refine V_aload (pc' := 99) d_PC_insert_97 rfl (by first | rfl | exact isR_rf _) rfl ?_
            refine V_lload_n (pc' := 100) d_PC_insert_99 rfl rfl ?_
            refine V_lload (pc' := 102) d_PC_insert_100 rfl rfl ?_
            -- at 102 invokespecial
            refine V_callI (pc' := 105) (As := [_, _, _, _]) d_PC_insert_102 mi_PC_130 mw_Sg_init rfl rfl rfl (by simp [Value.category]) (c_Sg_init (a := g2.1) (k := xk B kd) (q := rr B S2 q) (key := key) (val := val) (apush_self _ _)) (by first | decide | omega) (by first | decide | omega) (by first | decide | omega) (by first | decide | omega) ?_
            rintro _ _ ⟨rfl, rfl⟩
            rw [aset_apush]
            refine V_ex (fun g => JX h g o B B S2 ∧ g.2 g2.1 = some (2, [.ref (xk B kd), va_rf (rr B S2 q), .long key, .long val])) ⟨JX_push hJ2 hg2 _, apush_self _ _⟩ (fun g3 hJ3g => ?_)
            obtain ⟨hJ3, hca⟩ := hJ3g
            have han : ∀ i, i < ssz S2 → xs B (snm S2 i) ≠ g2.1 := fun i hi => Nat.ne_of_lt (hJ2.2.2.2.2.2 _ _ (h112 i hi))
            generalize g2.1 = a at *
            obtain ⟨ho3, hka3, hva3, hpa3, hba3, hra3, hpv3, h83, h93, h103, h113, iv3, ip3, is3⟩ := id hJ3.1
            have hcv3 := h93 v e2 e32
            have hkk3 := h83 kd k1 k2
            have cut130 : ¬ (scT S2 kd key (endS S2 q) (ssz S2) (at0 S2 kd q) = true ∧ sun S2 kd = true) → V x "PathCalls" b_PC_insert 11 (Option.some .int) false (rmd 6 1 4) 1 4 (PX h o B (insS S (nI v) key val)) 130 [(0, .ref o), (1, .int (nI v)), (2, .long key), (4, .long val), (6, .ref (xv B v)), (7, .int (nI n)), (8, .ref (xk B kd)), (9, va_rf (rr B S2 q)), (10, .ref a)] [] g3 1 4 := by
              intro hno2
              rw [if_neg hno2] at hins
              refine V_aload_n (pc' := 131) d_PC_insert_130 rfl (by first | rfl | exact isR_rf _) rfl ?_
              refine V_getf (pc' := 134) d_PC_insert_131 fl_PC_30 rfl (by first | assumption | exact aset_self _ _ _ | exact apush_self _ _) (by rfl) ?_
              refine V_aload_n (pc' := 135) d_PC_insert_134 rfl (by first | rfl | exact isR_rf _) rfl ?_
              refine V_getf (pc' := 138) d_PC_insert_135 fl_PC_30 rfl (by first | assumption | exact aset_self _ _ _ | exact apush_self _ _) (by rfl) ?_
              refine V_aload (pc' := 140) d_PC_insert_138 rfl (by first | rfl | exact isR_rf _) rfl ?_
              refine V_aload (pc' := 142) d_PC_insert_140 rfl (by first | rfl | exact isR_rf _) rfl ?_
              refine V_getf (pc' := 145) d_PC_insert_142 fl_PC_95 rfl (by first | assumption | exact aset_self _ _ _ | exact apush_self _ _) (by rfl) ?_
              rw [sr_rr y2 (y8 v e2 e32).1, epos]
              refine V_callV (pc' := 148) (As := [_, _]) (ci := 5) d_PC_insert_145 mv_PC_140 mw_Bs_placeFor rfl rfl rfl (by simp [Value.category]) rfl (by first | assumption | exact aset_self _ _ _ | exact apush_self _ _) (c_Bs_placeFor (q := q) (pos := pos) (kd := kd) (key := key) hJ3.1 hw2 hSo2 hq hpos k1 k2 (hru2 kd k1 k2) hca) (by first | decide | omega) (by first | decide | omega) (by first | decide | omega) (by first | decide | omega) ?_
              rintro _ _ ⟨rfl, rfl⟩
              obtain ⟨t1, t2, t3, t4, t5⟩ := at1_ok (kd := kd) (key := key) (pos := pos) y3 y2 hq hSo2
              refine V_aload (pc' := 150) d_PC_insert_148 rfl (by first | rfl | exact isR_rf _) rfl ?_
              -- at 150 invokevirtual
              refine V_callV (pc' := 153) (As := [_, _]) (ci := 5) d_PC_insert_150 mv_PC_143 mw_Bs_putAt rfl rfl rfl (by simp [Value.category]) rfl (by first | assumption | exact aset_self _ _ _ | exact apush_self _ _) (c_Bs_putAt (q := q) (kd := kd) (p := at1 S2 kd key pos q) (key := key) (val := val) hJ3 hw2 hnd2 hq k1 k2 hlq t1 t2 (fun z => by rw [hlq]; exact t3 z) hca han) (by first | decide | omega) (by first | decide | omega) (by first | decide | omega) (by first | decide | omega) ?_
              rintro _ g4 ⟨rfl, hJ4⟩
              have hcv4 := hJ4.1.2.2.2.2.2.2.2.2.1 v e2 e32
              refine V_aload (pc' := 155) d_PC_insert_153 rfl (by first | rfl | exact isR_rf _) rfl ?_
              refine V_aload (pc' := 157) d_PC_insert_155 rfl (by first | rfl | exact isR_rf _) rfl ?_
              rw [show Value.ref a = va_rf (sr (Bsg B (snd S2 + 1) a) (snd S2 + 1)) from by
                show Value.ref a = va_rf (if snd S2 + 1 = 0 then none else some (if snd S2 + 1 = snd S2 + 1 then a else xs B (snd S2 + 1)))
                rw [if_neg (by omega), if_pos rfl]; rfl]
              refine V_putf (pc' := 160) d_PC_insert_157 fp_PC_95 rfl (by first | assumption | exact aset_self _ _ _ | exact apush_self _ _) (by first | rfl | exact ob_nar _ | exact nar_rf _) (by first | rfl | exact ob_fit _ | exact fits_rf _) (by exact Nat.le_of_ble_eq_true rfl) ?_
              refine V_ex (fun g => JX h g o B (Bsg B (snd S2 + 1) a) _) (JX_po hJ4 e2 e32 (snd S2 + 1)) (fun g5 hJ5 => ?_)
              refine V_iconst (pc' := 161) (v := 0) d_PC_insert_160 (by decide) rfl ?_
              refine V_iret d_PC_insert_161 rfl (by first | decide | omega) (by first | decide | omega) ?_
              rw [hres, hins]
              exact ⟨rfl, _, hJ5⟩
            refine V_astore (pc' := 107) d_PC_insert_105 (by first | rfl | exact isR_rf _) (by decide) rfl ?_
            first | refine V_L [(0, _), (1, _), (2, _), (4, _), (6, _), (7, _), (8, _), (9, _), (10, _)] ⟨rfl, rfl, rfl, rfl, rfl, rfl, rfl, rfl, rfl, trivial⟩ ?_ | (refine V_keep (by intro q hq e; simp only [List.mem_cons, List.not_mem_nil, or_false] at hq; rcases hq with rfl | rfl | rfl | rfl | rfl | rfl | rfl | rfl <;> first | rfl | exact va_rf_cat _ | exact absurd e (by first | decide | simp)) ?_; refine V_L [(0, _), (1, _), (2, _), (4, _), (6, _), (7, _), (8, _), (9, _), (10, _)] ⟨rfl, rfl, rfl, rfl, rfl, rfl, rfl, rfl, rfl, trivial⟩ ?_)
            refine V_aload (pc' := 109) d_PC_insert_107 rfl (by first | rfl | exact isR_rf _) rfl ?_
            refine V_getf (pc' := 112) d_PC_insert_109 fl_PC_133 rfl (by first | assumption | exact aset_self _ _ _ | exact apush_self _ _) (by rfl) ?_
            refine V_if_eq (pc' := 115) (tgt := 130) d_PC_insert_112 (by decide) rfl (fun c112 => ?_) (fun c112 => ?_)
            · exact cut130 (fun z => by rw [ob_0.mp c112] at z; cases z.2)
            · have hun := ob_nt c112
              refine V_aload_n (pc' := 116) d_PC_insert_115 rfl (by first | rfl | exact isR_rf _) rfl ?_
              refine V_getf (pc' := 119) d_PC_insert_116 fl_PC_30 rfl (by first | assumption | exact aset_self _ _ _ | exact apush_self _ _) (by rfl) ?_
              refine V_aload (pc' := 121) d_PC_insert_119 rfl (by first | rfl | exact isR_rf _) rfl ?_
              -- at 121 invokevirtual
              refine V_callV (pc' := 124) (As := [_]) (ci := 5) d_PC_insert_121 mv_PC_136 mw_Bs_hasEqualTwin rfl rfl rfl (by simp [Value.category]) rfl (by first | assumption | exact aset_self _ _ _ | exact apush_self _ _) (c_Bs_hasEqualTwin (q := q) (kd := kd) (key := key) hJ3.1 hw2 hSo2 hq k1 k2 hca) (by first | decide | omega) (by first | decide | omega) (by first | decide | omega) (by first | decide | omega) ?_
              rintro _ _ ⟨rfl, rfl⟩
              refine V_if_eq (pc' := 127) (tgt := 130) d_PC_insert_124 (by decide) rfl (fun c124 => ?_) (fun c124 => ?_)
              · exact cut130 (fun z => by rw [ob_0.mp c124] at z; cases z.1)
              · refine V_bipush (pc' := 129) (v := 7) d_PC_insert_127 (by decide) rfl ?_
                refine V_iret d_PC_insert_129 rfl (by first | decide | omega) (by first | decide | omega) ?_
                rw [if_pos ⟨ob_nt c124, hun⟩] at hins
                rw [hres, hins]
                exact ⟨rfl, B, hJ3⟩
          refine V_astore (pc' := 76) d_PC_insert_74 (by first | rfl | exact isR_rf _) (by decide) rfl ?_
          first | refine V_L [(0, _), (1, _), (2, _), (4, _), (6, _), (7, _), (8, _), (9, _)] ⟨rfl, rfl, rfl, rfl, rfl, rfl, rfl, rfl, trivial⟩ ?_ | (refine V_keep (by intro q hq e; simp only [List.mem_cons, List.not_mem_nil, or_false] at hq; rcases hq with rfl | rfl | rfl | rfl | rfl | rfl | rfl <;> first | rfl | exact va_rf_cat _ | exact absurd e (by first | decide | simp)) ?_; refine V_L [(0, _), (1, _), (2, _), (4, _), (6, _), (7, _), (8, _), (9, _)] ⟨rfl, rfl, rfl, rfl, rfl, rfl, rfl, rfl, trivial⟩ ?_)
          refine V_aload (pc' := 78) d_PC_insert_76 rfl (by first | rfl | exact isR_rf _) rfl ?_
          cases hqq : q with
          | none =>
            rw [hqq] at cut91
            refine V_ifnonnull (pc' := 81) (tgt := 91) (r := (rr B S2 none)) d_PC_insert_78 (by decide) rfl (fun a78 c78 => ?_) (fun c78 => ?_)
            · cases c78
            · refine V_aload (pc' := 83) d_PC_insert_81 rfl (by first | rfl | exact isR_rf _) rfl ?_
              refine V_getf (pc' := 86) d_PC_insert_83 fl_PC_125 rfl (by first | assumption | exact aset_self _ _ _ | exact apush_self _ _) (by rfl) ?_
              refine V_ifnull (pc' := 89) (tgt := 91) (r := (kr B (sab S2 kd))) d_PC_insert_86 (by decide) rfl (fun c86 => ?_) (fun a86 c86 => ?_)
              · exact cut91 (fun z => z.1 (kr_none c86))
              · refine V_iconst (pc' := 90) (v := 1) d_PC_insert_89 (by decide) rfl ?_
                refine V_iret d_PC_insert_90 rfl (by first | decide | omega) (by first | decide | omega) ?_
                have z : sab S2 kd ≠ 0 := fun z => by rw [z] at c86; cases c86
                rw [if_pos ⟨z, hqq⟩] at hins
                rw [hres, hins]
                exact ⟨rfl, B, hJ2⟩
          | some p =>
            rw [hqq] at cut91
            refine V_ifnonnull (pc' := 81) (tgt := 91) (r := (rr B S2 (some p))) d_PC_insert_78 (by decide) rfl (fun a78 c78 => ?_) (fun c78 => ?_)
            · exact cut91 (fun z => by cases z.2)
            · cases c78
        · have hb : badI S = true := by
            have := ob_0.mp c42
            cases e : badI S with
            | true => rfl
            | false => rw [e] at this; cases this
          refine V_bipush (pc' := 47) (v := 6) d_PC_insert_45 (by decide) rfl ?_
          refine V_iret d_PC_insert_47 rfl (by first | decide | omega) (by first | decide | omega) ?_
          rw [iBad hb]
          exact ⟨rfl, B, hJ2⟩
      · exact absurd rfl c19
end X13
