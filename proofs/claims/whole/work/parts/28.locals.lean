/-! ===== locals that aren't read may be forgotten, and their order changed ===== -/
def lvS (a b : List (Nat × Value)) : Prop := (a.map (·.1)).Nodup ∧ ∀ i v, lget a i = some v → lget b i = some v
theorem lget_cons (j : Nat) (w : Value) (t : List (Nat × Value)) (i : Nat) : lget ((j, w) :: t) i = if j = i then some w else lget t i := by
  by_cases h : j = i
  · subst h
    rw [if_pos rfl]
    unfold lget
    rw [Nat.beq_refl]
  · rw [if_neg h]
    have : Nat.beq j i = false := by
      cases e : Nat.beq j i with
      | false => rfl
      | true => exact absurd (Nat.eq_of_beq_eq_true e) h
    conv => lhs; unfold lget
    rw [this]
theorem lget_out : ∀ {l : List (Nat × Value)} {i : Nat}, i ∉ l.map (·.1) → lget l i = none
  | [], _, _ => rfl
  | (j, w) :: t, i, h => by
    rw [lget_cons, if_neg (fun e => h (by rw [e]; exact List.mem_cons_self))]
    exact lget_out (fun q => h (List.mem_cons_of_mem _ q))
theorem lget_f1 {p : Nat × Value → Bool} : ∀ {l : List (Nat × Value)} {i : Nat} {v : Value}, (l.map (·.1)).Nodup → lget (l.filter p) i = some v → lget l i = some v
  | [], _, _, _, h => by cases h
  | (j, w) :: t, i, v, hn, h => by
    rw [List.map_cons, List.nodup_cons] at hn
    rw [lget_cons]
    by_cases hp : p (j, w) = true
    · rw [List.filter_cons_of_pos hp, lget_cons] at h
      by_cases e : j = i
      · rw [if_pos e] at h ⊢; exact h
      · rw [if_neg e] at h ⊢; exact lget_f1 hn.2 h
    · rw [List.filter_cons_of_neg hp] at h
      have h1 := lget_f1 hn.2 h
      by_cases e : j = i
      · subst e
        rw [lget_out hn.1] at h1
        cases h1
      · rw [if_neg e]; exact h1
theorem lget_f2 {p : Nat × Value → Bool} : ∀ {l : List (Nat × Value)} {i : Nat} {v : Value}, lget l i = some v → p (i, v) = true → lget (l.filter p) i = some v
  | [], _, _, h, _ => by cases h
  | (j, w) :: t, i, v, h, hp => by
    rw [lget_cons] at h
    by_cases e : j = i
    · rw [if_pos e] at h
      cases h
      subst e
      rw [List.filter_cons_of_pos hp, lget_cons, if_pos rfl]
    · rw [if_neg e] at h
      have ih := lget_f2 h hp
      by_cases hq : p (j, w) = true
      · rw [List.filter_cons_of_pos hq, lget_cons, if_neg e]; exact ih
      · rw [List.filter_cons_of_neg hq]; exact ih
theorem nd_f {p : Nat × Value → Bool} {l : List (Nat × Value)} (h : (l.map (·.1)).Nodup) : ((l.filter p).map (·.1)).Nodup := (List.Sublist.map (fun q : Nat × Value => q.1) (List.filter_sublist (p := p) (l := l))).nodup h
theorem lget_in : ∀ {l : List (Nat × Value)} {i : Nat} {v : Value}, lget l i = some v → (i, v) ∈ l := fun h => lget_mem h
theorem lvS.put {p : Nat × Value → Bool} {a b : List (Nat × Value)} (h : lvS a b) (k : Nat) (x : Value) (hk : ∀ v, p (k, v) = false) : lvS ((k, x) :: a.filter p) ((k, x) :: b.filter p) := by
  refine ⟨?_, fun i v hv => ?_⟩
  · rw [List.map_cons, List.nodup_cons]
    refine ⟨fun q => ?_, nd_f h.1⟩
    obtain ⟨⟨i, v⟩, hm, rfl⟩ := List.mem_map.mp q
    have := (List.mem_filter.mp hm).2
    rw [hk] at this
    cases this
  · rw [lget_cons] at hv ⊢
    by_cases e : k = i
    · rw [if_pos e] at hv ⊢; exact hv
    · rw [if_neg e] at hv ⊢
      have h1 := lget_f1 h.1 hv
      exact lget_f2 (h.2 i v h1) (List.mem_filter.mp (lget_in hv)).2
theorem lvS.put1 {a b : List (Nat × Value)} (h : lvS a b) (k : Nat) (x : Value) : lvS (lput1 a k x) (lput1 b k x) := h.put k x (fun v => by simp)
theorem lvS.put2 {a b : List (Nat × Value)} (h : lvS a b) (k : Nat) (x : Value) : lvS (lput2 a k x) (lput2 b k x) := h.put k x (fun v => by simp)
set_option maxHeartbeats 4000000 in
theorem sx_lv {nL : Nat} {Z : Option (Nat × (Nat → Int32))} {cp : Nat × Nat} {q : RI} {pc : Nat} {lv lv' : List (Nat × Value)} {st : List Value} {S : Sto} {kc ks : Nat} {c' : CF} {O : Prop} (hS : lvS lv lv') (h : sx nL Z cp q pc lv st S kc ks = some (c', O)) : ∃ l2, lvS c'.2.1 l2 ∧ sx nL Z cp q pc lv' st S kc ks = some ((c'.1, l2, c'.2.2), O) := by
  obtain ⟨i, len, a, bb, dd, v⟩ := q
  cases i <;> simp only [sx, reduceCtorEq] at h ⊢
  case iload_n | iload | lload_n | aload_n | aload =>
    split at h <;> first | (cases h; done) | (next x hg => cases h; rw [hS.2 _ _ hg]; exact ⟨lv', hS, rfl⟩)
  case iinc =>
    split at h
    · next x hg => cases h; rw [hS.2 _ _ hg]; exact ⟨_, hS.put1 _ _, rfl⟩
    · cases h
  case istore_n | istore | astore_n | astore =>
    split at h <;> first | (cases h; done) | (cases h; exact ⟨_, hS.put1 _ _, rfl⟩)
  case lstore_n =>
    split at h <;> first | (cases h; done) | (cases h; exact ⟨_, hS.put2 _ _, rfl⟩)
  case arraylength =>
    split at h
    · split at h
      · next hc => cases h; refine ⟨lv', hS, ?_⟩; simp [hc]
      · cases h
    · split at h
      · cases h; exact ⟨lv', hS, rfl⟩
      · cases h
    · cases h
  case iaload =>
    split at h
    · cases h; exact ⟨lv', hS, rfl⟩
    · split at h
      · cases h; exact ⟨lv', hS, rfl⟩
      · cases h
    · cases h
  all_goals first | (cases h; exact ⟨lv', hS, rfl⟩) | (split at h <;> first | (cases h; done) | (cases h; exact ⟨lv', hS, rfl⟩))
set_option maxHeartbeats 4000000 in
/-- the same run with other locals beside those that it reads -/
theorem Runs.lv {d : Nat} {cc : ByteArray} {own : Nat} {ini : Bool} {nL : Nat} {rt : Option FieldType} {Z : Option (Nat × (Nat → Int32))} {cp : Nat × Nat} {Post : Option Value → Sto → Prop} {pc lv st S kc ks} (h : Runs (Ex d) cc own ini nL rt Z cp Post pc lv st S kc ks) : ∀ lv', lvS lv lv' → Runs (Ex d) cc own ini nL rt Z cp Post pc lv' st S kc ks := by
  refine h (fun pc lv st S kc ks => ∀ lv', lvS lv lv' → Runs (Ex d) cc own ini nL rt Z cp Post pc lv' st S kc ks) ?_
  intro pc lv st S kc ks hq lv' hS
  obtain ⟨⟨i, q2⟩, h1, h2, h⟩ := hq
  refine Runs.step (i, q2) h1 h2 ?_
  cases i
  case if_icmp cd o =>
    obtain ⟨x, y, r, e, ht, hf⟩ := h
    exact ⟨x, y, r, e, fun c => ht c lv' hS, fun c => hf c lv' hS⟩
  case ifCond cd o =>
    obtain ⟨x, r, e, ht, hf⟩ := h
    exact ⟨x, r, e, fun c => ht c lv' hS, fun c => hf c lv' hS⟩
  case goto o => exact h lv' hS
  case tableswitch =>
    obtain ⟨x, r, t, e, hs, k⟩ := h
    exact ⟨x, r, t, e, hs, k lv' hS⟩
  case lookupswitch =>
    obtain ⟨x, r, t, e, hs, k⟩ := h
    exact ⟨x, r, t, e, hs, k lv' hS⟩
  case ireturn => exact h
  case lreturn => exact h
  case return_ => exact h
  case invokevirtual =>
    obtain ⟨k, As, rest, mc, ms, g1, g2, g3, g4, g5, g6, g7⟩ := h
    exact ⟨k, As, rest, mc, ms, g1, g2, g3, g4, g5, g6, Ex.mono d _ _ _ _ _ _ _ (fun r S' q => q lv' hS) g7⟩
  case invokestatic =>
    rcases h with ⟨c', O, g1, g2, g3⟩ | ⟨g0, As, rest, mc, ms, g1, g2, g4, g5, g6, g7⟩
    · obtain ⟨l2, hl, hs⟩ := sx_lv hS g1
      exact Or.inl ⟨_, O, hs, g2, g3 l2 hl⟩
    · exact Or.inr ⟨g0, As, rest, mc, ms, g1, g2, g4, g5, g6, Ex.mono d _ _ _ _ _ _ _ (fun r S' q => q lv' hS) g7⟩
  case invokespecial =>
    rcases h with ⟨c', O, g1, g2, g3⟩ | ⟨g0, k, As, rest, mc, ms, g1, g2, g4, g5, g6, g7⟩
    · obtain ⟨l2, hl, hs⟩ := sx_lv hS g1
      exact Or.inl ⟨_, O, hs, g2, g3 l2 hl⟩
    · exact Or.inr ⟨g0, k, As, rest, mc, ms, g1, g2, g4, g5, g6, Ex.mono d _ _ _ _ _ _ _ (fun r S' q => q lv' hS) g7⟩
  all_goals
    rcases h with ⟨c', O, g1, g2, g3⟩ | h
    · obtain ⟨l2, hl, hs⟩ := sx_lv hS g1
      exact Or.inl ⟨_, O, hs, g2, g3 l2 hl⟩
    · exact False.elim h
