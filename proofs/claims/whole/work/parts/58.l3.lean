-- the law: from its entry on
theorem IX_fr {h g : AH} {o : Nat} {B : XB} {S : PS} (hX : IX h o B S) (hk : ∀ q c, h.2 q = some c → g.2 q = some c) : IX g o B S := by
  obtain ⟨ho, hka, hva, hpa, hba, hra, hpv, h8, h9, h10, h11, iv, ip, is⟩ := hX
  exact ⟨hk _ _ ho, hk _ _ hka, hk _ _ hva, hk _ _ hpa, hk _ _ hba, hk _ _ hra, hk _ _ hpv, fun k h1 h2 => hk _ _ (h8 k h1 h2), fun w h1 h2 => hk _ _ (h9 w h1 h2), fun p h1 => hk _ _ (h10 p h1), fun i h1 => hk _ _ (h11 i h1), iv, ip, is⟩
section L3
variable {x : CX}
set_option maxHeartbeats 4000000 in
theorem law_all (hL : cxn x ≤ 3072) (N : Nat) : V x "PathCallsLaw" code 4 (Option.some .boolean) false room_1 600000 7302250 (fun r h' => r = some (.int 1)) 0 [(0, .ref (cxs x))] [] (N, fun _ => none) 0 0 := by
  refine V_L [(0, .ref (cxs x))] ⟨rfl, trivial⟩ ?_
  have hh0 : Hok (N, fun _ => none) := fun q c hq => by cases hq
  generalize ((N, fun _ => none) : AH) = h0 at hh0
  refine V_new (pc' := 3) d_Lw_law_0 nw_Lw_7 rfl (by first | decide | omega) (by first | decide | omega) ?_
  have hh1 := hh0.push (c := (0, [.null, .int 0, .null, .int 0, .null, .int 0, .null, .null]))
  have ho1 := apush_self h0 (0, [.null, .int 0, .null, .int 0, .null, .int 0, .null, .null])
  have e1 : (apush h0 (0, [.null, .int 0, .null, .int 0, .null, .int 0, .null, .null])).1 = h0.1 + 1 := rfl
  generalize apush h0 (0, [.null, .int 0, .null, .int 0, .null, .int 0, .null, .null]) = h1 at hh1 ho1 e1
  refine V_dup (pc' := 4) d_Lw_law_3 rfl rfl ?_
  -- at 4 invokespecial
  refine V_callI (pc' := 7) (As := []) d_Lw_law_4 mi_Lw_9 mw_PC_init rfl rfl rfl (by simp [Value.category]) (c_PC_init hh1 ho1) (by first | decide | omega) (by first | decide | omega) (by first | decide | omega) (by first | decide | omega) ?_
  rintro _ g ⟨rfl, hX, hok, hn, hfr⟩
  refine V_astore_n (pc' := 8) d_Lw_law_7 (by first | rfl | exact isR_rf _) (by decide) rfl ?_
  first | refine V_L [(0, _), (1, _)] ⟨rfl, rfl, trivial⟩ ?_ | (refine V_keep (by intro q hq e; simp only [List.mem_cons, List.not_mem_nil, or_false] at hq; rcases hq with rfl <;> first | rfl | exact va_rf_cat _ | exact absurd e (by first | decide | simp)) ?_; refine V_L [(0, _), (1, _)] ⟨rfl, rfl, trivial⟩ ?_)
  refine V_new (pc' := 11) d_Lw_law_8 nw_Lw_10 rfl (by first | decide | omega) (by first | decide | omega) ?_
  have hm1 := apush_self g (6, [.null, .null, .null, .null, .int 0, .null, .null, .null, .null, .int 0, .int 0, .null, .null, .null, .int 0, .null, .null, .null, .null, .int 0, .null])
  have e2 : (apush g (6, [.null, .null, .null, .null, .int 0, .null, .null, .null, .null, .int 0, .int 0, .null, .null, .null, .int 0, .null, .null, .null, .null, .int 0, .null])).1 = g.1 + 1 := rfl
  have hk1 : ∀ q c, g.2 q = some c → (apush g (6, [.null, .null, .null, .null, .int 0, .null, .null, .null, .null, .int 0, .int 0, .null, .null, .null, .int 0, .null, .null, .null, .null, .int 0, .null])).2 q = some c := fun q c hq => (apush_ne (Nat.ne_of_lt (hok _ _ hq))).trans hq
  generalize apush g (6, [.null, .null, .null, .null, .int 0, .null, .null, .null, .null, .int 0, .int 0, .null, .null, .null, .int 0, .null, .null, .null, .null, .int 0, .null]) = g1 at hm1 e2 hk1
  refine V_dup (pc' := 12) d_Lw_law_11 rfl rfl ?_
  -- at 12 invokespecial
  refine V_callI (pc' := 15) (As := []) d_Lw_law_12 mi_Lw_12 mw_Md_init rfl rfl rfl (by simp [Value.category]) (c_Md_init (by omega) hm1) (by first | decide | omega) (by first | decide | omega) (by first | decide | omega) (by first | decide | omega) ?_
  rintro _ g2 ⟨rfl, hM, hn2, hfr2⟩
  refine V_astore_n (pc' := 16) d_Lw_law_15 (by first | rfl | exact isR_rf _) (by decide) rfl ?_
  first | refine V_L [(0, _), (1, _), (2, _)] ⟨rfl, rfl, rfl, trivial⟩ ?_ | (refine V_keep (by intro q hq e; simp only [List.mem_cons, List.not_mem_nil, or_false] at hq; rcases hq with rfl | rfl <;> first | rfl | exact va_rf_cat _ | exact absurd e (by first | decide | simp)) ?_; refine V_L [(0, _), (1, _), (2, _)] ⟨rfl, rfl, rfl, trivial⟩ ?_)
  refine V_iconst (pc' := 17) (v := 0) d_Lw_law_16 (by decide) rfl ?_
  refine V_istore_n (pc' := 18) d_Lw_law_17 (by decide) rfl ?_
  first | refine V_L [(0, _), (1, _), (2, _), (3, _)] ⟨rfl, rfl, rfl, rfl, trivial⟩ ?_ | (refine V_keep (by intro q hq e; simp only [List.mem_cons, List.not_mem_nil, or_false] at hq; rcases hq with rfl | rfl | rfl <;> first | rfl | exact va_rf_cat _ | exact absurd e (by first | decide | simp)) ?_; refine V_L [(0, _), (1, _), (2, _), (3, _)] ⟨rfl, rfl, rfl, rfl, trivial⟩ ?_)
  refine law_loop hL 600 0 (by omega) (by omega) g2 (BI h1.1) S00 _ _ ⟨IX_fr hX (fun q c hq => ?_), hM, Wf_00, fun i => ?_, ?_⟩ (by omega) (by omega)
  · have hlt := hok _ _ hq
    rw [hfr2 q (by omega) (by omega)]
    exact hk1 q c hq
  · show g1.1 + pm i ≠ h1.1 + 5
    omega
  · omega
end L3
