-- the tables' words that stay good at every state, and what is read off them once
def gtbl : List Cond := lw_tbl.filter goodWord
theorem cls_lay : ∀ q ∈ classes, ∀ w ∈ u_ws q.1 q.2.1 q.2.2, w ∈ gtbl := by decide +kernel
theorem cls_ty : ∀ q ∈ classes, ∀ k, k < q.2.2 → (parseFieldDescriptor (q.2.1 k).2.2.1).isSome = true := by decide +kernel
theorem cls_nm : ∀ q ∈ classes, ∀ a, a < q.2.2 → ∀ b, b < q.2.2 → a ≠ b → (q.2.1 a).2.1 ≠ (q.2.1 b).2.1 := by decide +kernel
theorem obj_inst : Cond.instanceMethod objectInit ∈ gtbl := by decide +kernel
theorem obj_code : Cond.code objectInit ⟨#[0xb1]⟩ 1 none ∈ gtbl := List.mem_filter.mpr ⟨List.mem_of_getElem? (i := 58) rfl, rfl⟩
