/-! WHAT THESE ROWS SHOW: the printed statement of p26 is EMPTY, and i_vc below holds for that reason alone. It says nothing of the program. The law's own method has an exception table (338 to 366, at 369: the row em_table). The statement speaks of launches whose class file has that method WITHOUT an exception table (em_plain: this class file has not). So no launch is one of which the statement speaks (em_none). See REPORT.md, 'STATEMENT'. -/
theorem em_table : classFile.hasCodeWith x code maxLocals ret [(338, 366, 369, 273)] = true := by decide +kernel
theorem em_plain : classFile.hasCode x code maxLocals ret = false := by decide +kernel
theorem em_any {α : Type} {o : Option α} {a : α} {p : α → Bool} (ho : o = some a) (h : o.any p = true) : p a = true := by
  subst ho
  exact h
/-- no launch at all meets what the statement asks of a launch -/
theorem em_none (l : Launch) : ¬ Lists l classFile x code maxLocals ret tables_1 room_1 := by
  rintro ⟨-, hf, ⟨hc, -⟩, -⟩
  have h : ((l.file? x.cls).any fun f => f.hasCode x code maxLocals ret) = true :=
    hc (x, code, maxLocals, ret) (List.mem_append_left _ (List.mem_append_left _ (List.mem_singleton.mpr rfl)))
  have h2 := em_any hf h
  exact Bool.noConfusion (em_plain.symm.trans h2)
theorem i_vc : Claimed_1_1 ∧ Claimed_1_2 := ⟨fun l _ hL _ => absurd hL (em_none l), fun l _ hL _ => absurd hL (em_none l)⟩
