/-! ===== a run of the small machine only adds cells ===== -/
def Ext (S S' : Sto) : Prop := ∃ K : List (Nat × Nat), S'.1 = S.1 ++ K
theorem Ext.rf (S : Sto) : Ext S S := ⟨[], (List.append_nil _).symm⟩
theorem Ext.tr {A B C : Sto} (h : Ext A B) (k : Ext B C) : Ext A C := by
  obtain ⟨x, hx⟩ := h
  obtain ⟨y, hy⟩ := k
  exact ⟨x ++ y, by rw [hy, hx, List.append_assoc]⟩
theorem sx_ext {nL : Nat} {Z : Option (Nat × (Nat → Int32))} {cp : Nat × Nat} {q : RI} {pc : Nat} {lv : List (Nat × Value)} {st : List Value} {S : Sto} {kc ks : Nat} {c' : CF} {O : Prop} (h : sx nL Z cp q pc lv st S kc ks = some (c', O)) : Ext S c'.2.2.2.1 := by
  obtain ⟨i, len, a, bb, dd, v⟩ := q
  cases i <;> simp only [sx, reduceCtorEq] at h <;> (repeat' split at h) <;> first | (cases h; done) | (cases h; exact ⟨[], (List.append_nil _).symm⟩) | (cases h; exact ⟨[_], rfl⟩)
theorem RuleI.ext {d nL : Nat} {rt : Option FieldType} {Z : Option (Nat × (Nat → Int32))} {cp : Nat × Nat} {Post : Option Value → Sto → Prop} {P : PP} {q : RI} {pc : Nat} {lv : List (Nat × Value)} {st : List Value} {S S0 : Sto} {kc ks : Nat}
    (ih : ∀ m As S mc ms (A : Option Value → Sto → Prop), Ex d m As S mc ms A → Ex d m As S mc ms (fun r S1 => A r S1 ∧ Ext S S1)) (h0 : Ext S0 S)
    (h : RuleI (Ex d) nL rt Z cp Post (fun pc lv st S kc ks => Ext S0 S → P pc lv st S kc ks) q pc lv st S kc ks) : RuleI (Ex d) nL rt Z cp (fun r S1 => Post r S1 ∧ Ext S0 S1) P q pc lv st S kc ks := by
  obtain ⟨i, q2⟩ := q
  cases i
  case if_icmp cd o =>
    obtain ⟨x, y, r, h1, h2, h3⟩ := h
    exact ⟨x, y, r, h1, fun c => h2 c h0, fun c => h3 c h0⟩
  case ifCond cd o =>
    obtain ⟨x, r, h1, h2, h3⟩ := h
    exact ⟨x, r, h1, fun c => h2 c h0, fun c => h3 c h0⟩
  case goto o => exact h h0
  case tableswitch =>
    obtain ⟨x, r, t, h1, h2, h3⟩ := h
    exact ⟨x, r, t, h1, h2, h3 h0⟩
  case lookupswitch =>
    obtain ⟨x, r, t, h1, h2, h3⟩ := h
    exact ⟨x, r, t, h1, h2, h3 h0⟩
  case ireturn =>
    obtain ⟨v, ty, h1, h2, h3, h4⟩ := h
    exact ⟨v, ty, h1, h2, h3, h4, h0⟩
  case lreturn =>
    obtain ⟨v, h1, h2, h3⟩ := h
    exact ⟨v, h1, h2, h3, h0⟩
  case return_ => exact ⟨h.1, h.2.1, h.2.2, h0⟩
  case invokevirtual =>
    obtain ⟨k, As, rest, mc, ms, h1, h2, h3, h4, h5, h6, h7⟩ := h
    exact ⟨k, As, rest, mc, ms, h1, h2, h3, h4, h5, h6, Ex.mono d _ _ _ _ _ _ _ (fun r S' hh => hh.1 (h0.tr hh.2)) (ih _ _ _ _ _ _ h7)⟩
  case invokestatic =>
    rcases h with ⟨c', O, h1, h2, h3⟩ | h
    · exact Or.inl ⟨c', O, h1, h2, h3 (h0.tr (sx_ext h1))⟩
    · obtain ⟨h8, As, rest, mc, ms, h1, h2, h4, h5, h6, h7⟩ := h
      exact Or.inr ⟨h8, As, rest, mc, ms, h1, h2, h4, h5, h6, Ex.mono d _ _ _ _ _ _ _ (fun r S' hh => hh.1 (h0.tr hh.2)) (ih _ _ _ _ _ _ h7)⟩
  case invokespecial =>
    rcases h with ⟨c', O, h1, h2, h3⟩ | h
    · exact Or.inl ⟨c', O, h1, h2, h3 (h0.tr (sx_ext h1))⟩
    · obtain ⟨h8, k, As, rest, mc, ms, h1, h2, h4, h5, h6, h7⟩ := h
      exact Or.inr ⟨h8, k, As, rest, mc, ms, h1, h2, h4, h5, h6, Ex.mono d _ _ _ _ _ _ _ (fun r S' hh => hh.1 (h0.tr hh.2)) (ih _ _ _ _ _ _ h7)⟩
  all_goals
    rcases h with ⟨c', O, h1, h2, h3⟩ | h
    · exact Or.inl ⟨c', O, h1, h2, h3 (h0.tr (sx_ext h1))⟩
    · exact False.elim h
theorem Ex.ext : ∀ (d : Nat) (m : Nat) (As : List Value) (S : Sto) (mc ms : Nat) (A : Option Value → Sto → Prop), Ex d m As S mc ms A → Ex d m As S mc ms (fun r S1 => A r S1 ∧ Ext S S1)
  | 0 => fun _ _ _ _ _ _ h => False.elim h
  | d + 1 => fun m As S mc ms A h => by
    refine ⟨h.1, h.2.1, ?_⟩
    refine h.2.2 (fun pc lv st S' kc ks => Ext S S' → Runs (Ex d) (mt m).2.1 (mt m).2.2.2.2.1 (isIni m) (mt m).2.2.1 (mt m).2.2.2.1 none (mc, ms) (fun r S1 => A r S1 ∧ Ext S S1) pc lv st S' kc ks) ?_ (Ext.rf S)
    intro pc lv st S' kc ks hq h0
    obtain ⟨q, h1, h2, h3⟩ := hq
    exact Runs.step q h1 h2 (RuleI.ext (Ex.ext d) h0 h3)
