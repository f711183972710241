/-! ===== rules for runs of the small machine ===== -/
def evS (nL : Nat) (Z : Option (Nat × (Nat → Int32))) (cp : Nat × Nat) : List RI → Nat → List (Nat × Value) → List Value → Sto → Nat → Nat → Option (CF × Prop)
  | [], pc, lv, st, S, kc, ks => some ((pc, lv, st, S, kc, ks), True)
  | q :: B, pc, lv, st, S, kc, ks => match sx nL Z cp q pc lv st S kc ks with
    | some ((pc1, lv1, st1, S1, kc1, ks1), O) => match evS nL Z cp B pc1 lv1 st1 S1 kc1 ks1 with
      | some (c2, O2) => some (c2, O ∧ O2)
      | none => none
    | none => none
def seqI (i : Instr) : Bool := match i with
  | .if_icmp .. | .ifCond .. | .goto _ | .tableswitch .. | .lookupswitch .. | .ireturn | .lreturn | .return_ | .invokevirtual _ => false
  | _ => true
/-- a row of instructions as the bytes have it -/
def segB (own : Nat) (ini : Bool) (cc : ByteArray) : Nat → List RI → Bool
  | _, [] => true
  | pc, q :: B => decide (decode cc pc = .ok (q.1, q.2.1)) && lnkB own ini pc q && seqI q.1 && segB own ini cc (pc + q.2.1) B
theorem rule_sx {E : EX} {nL : Nat} {rt : Option FieldType} {Z : Option (Nat × (Nat → Int32))} {cp : Nat × Nat} {Post : Option Value → Sto → Prop} {P : PP} {q : RI} {pc : Nat} {lv : List (Nat × Value)} {st : List Value} {S : Sto} {kc ks : Nat} (hq : seqI q.1 = true) {c' : CF} {O : Prop} (h : sx nL Z cp q pc lv st S kc ks = some (c', O)) (ho : O) (k : P c'.1 c'.2.1 c'.2.2.1 c'.2.2.2.1 c'.2.2.2.2.1 c'.2.2.2.2.2) : RuleI E nL rt Z cp Post P q pc lv st S kc ks := by
  obtain ⟨i, q2⟩ := q
  cases i <;> first | exact Or.inl ⟨c', O, h, ho, k⟩ | exact absurd hq Bool.false_ne_true
/-- each instruction is as long as it goes on -/
theorem sx_pc {nL : Nat} {Z : Option (Nat × (Nat → Int32))} {cp : Nat × Nat} {q : RI} {pc own : Nat} {ini : Bool} {lv : List (Nat × Value)} {st : List Value} {S : Sto} {kc ks : Nat} {c' : CF} {O : Prop} (hk : lnkB own ini pc q = true) (h : sx nL Z cp q pc lv st S kc ks = some (c', O)) : c'.1 = pc + q.2.1 := by
  obtain ⟨i, len, a, bb, dd, v⟩ := q
  cases i <;> simp only [sx, lnkB, Bool.and_eq_true, decide_eq_true_eq, reduceCtorEq] at h hk <;> (repeat' split at h) <;> first | (cases h; done) | (cases h; simp_all)
section RUL
variable {d : Nat} {cc : ByteArray} {own : Nat} {ini : Bool} {nL : Nat} {rt : Option FieldType} {Z : Option (Nat × (Nat → Int32))} {cp : Nat × Nat} {Post : Option Value → Sto → Prop} {pc : Nat} {lv : List (Nat × Value)} {st r : List Value} {S : Sto} {kc ks : Nat}
theorem R_seg : ∀ (B : List RI) {pc : Nat} {lv : List (Nat × Value)} {st : List Value} {S : Sto} {kc ks pc' : Nat} {lv' : List (Nat × Value)} {st' : List Value} {S' : Sto} {kc' ks' : Nat} {O : Prop}, segB own ini cc pc B = true → evS nL Z cp B pc lv st S kc ks = some ((pc', lv', st', S', kc', ks'), O) → O → Runs (Ex d) cc own ini nL rt Z cp Post pc' lv' st' S' kc' ks' → Runs (Ex d) cc own ini nL rt Z cp Post pc lv st S kc ks
  | [], _, _, _, _, _, _, _, _, _, _, _, _, _, _, he, _, k => by
    cases he
    exact k
  | q :: B, pc, lv, st, S, kc, ks, pc', lv', st', S', kc', ks', O, hB, he, ho, k => by
    simp only [segB, Bool.and_eq_true, decide_eq_true_eq] at hB
    obtain ⟨⟨⟨h1, h2⟩, h3⟩, h4⟩ := hB
    unfold evS at he
    split at he
    · next pc1 lv1 st1 S1 kc1 ks1 O1 hs =>
      split at he
      · next c2 O2 hr =>
        cases he
        have e1 : pc1 = pc + q.2.1 := sx_pc h2 hs
        refine Runs.step q h1 h2 (rule_sx h3 hs ho.1 ?_)
        subst e1
        exact R_seg B h4 hr ho.2 k
      · cases he
    · cases he
theorem R_icmp {cd : Jvm.ClassFile.Cond} {o : Int} {len a b kk : Nat} {v x y : Int32} (h : decode cc pc = .ok (.if_icmp cd o, len) ∧ lnkB own ini pc (.if_icmp cd o, len, a, b, kk, v) = true) (ht : cmpC cd x y → Runs (Ex d) cc own ini nL rt Z cp Post a lv r S kc ks) (hf : ¬ cmpC cd x y → Runs (Ex d) cc own ini nL rt Z cp Post (pc + 3) lv r S kc ks) : Runs (Ex d) cc own ini nL rt Z cp Post pc lv (.int y :: .int x :: r) S kc ks :=
  Runs.step (.if_icmp cd o, len, a, b, kk, v) h.1 h.2 ⟨x, y, r, rfl, ht, hf⟩
theorem R_if {cd : Jvm.ClassFile.Cond} {o : Int} {len a b kk : Nat} {v x : Int32} (h : decode cc pc = .ok (.ifCond cd o, len) ∧ lnkB own ini pc (.ifCond cd o, len, a, b, kk, v) = true) (ht : cmpC cd x 0 → Runs (Ex d) cc own ini nL rt Z cp Post a lv r S kc ks) (hf : ¬ cmpC cd x 0 → Runs (Ex d) cc own ini nL rt Z cp Post (pc + 3) lv r S kc ks) : Runs (Ex d) cc own ini nL rt Z cp Post pc lv (.int x :: r) S kc ks :=
  Runs.step (.ifCond cd o, len, a, b, kk, v) h.1 h.2 ⟨x, r, rfl, ht, hf⟩
theorem R_goto {o : Int} {len a b kk : Nat} {v : Int32} (h : decode cc pc = .ok (.goto o, len) ∧ lnkB own ini pc (.goto o, len, a, b, kk, v) = true) (k : Runs (Ex d) cc own ini nL rt Z cp Post a lv st S kc ks) : Runs (Ex d) cc own ini nL rt Z cp Post pc lv st S kc ks :=
  Runs.step (.goto o, len, a, b, kk, v) h.1 h.2 k
theorem R_tsw {df lo hi : Int} {offs : Array Int} {len a b kk : Nat} {v x : Int32} (h : decode cc pc = .ok (.tableswitch df lo hi offs, len) ∧ lnkB own ini pc (.tableswitch df lo hi offs, len, a, b, kk, v) = true) (t : Nat) (ht : swT (.tableswitch df lo hi offs) pc x.toInt = some (t : Int)) (k : Runs (Ex d) cc own ini nL rt Z cp Post t lv r S kc ks) : Runs (Ex d) cc own ini nL rt Z cp Post pc lv (.int x :: r) S kc ks :=
  Runs.step (.tableswitch df lo hi offs, len, a, b, kk, v) h.1 h.2 ⟨x, r, t, rfl, ht, k⟩
theorem R_lsw {df : Int} {ps : Array (Int × Int)} {len a b kk : Nat} {v x : Int32} (h : decode cc pc = .ok (.lookupswitch df ps, len) ∧ lnkB own ini pc (.lookupswitch df ps, len, a, b, kk, v) = true) (t : Nat) (ht : swT (.lookupswitch df ps) pc x.toInt = some (t : Int)) (k : Runs (Ex d) cc own ini nL rt Z cp Post t lv r S kc ks) : Runs (Ex d) cc own ini nL rt Z cp Post pc lv (.int x :: r) S kc ks :=
  Runs.step (.lookupswitch df ps, len, a, b, kk, v) h.1 h.2 ⟨x, r, t, rfl, ht, k⟩
theorem R_iret {len a b kk : Nat} {v x : Int32} {ty : FieldType} (h : decode cc pc = .ok (.ireturn, len) ∧ lnkB own ini pc (.ireturn, len, a, b, kk, v) = true) (hrt : rt = some ty) (hn : narrow ty (.int x) = .int x) (k : Post (some (.int x)) S) : Runs (Ex d) cc own ini nL rt Z cp Post pc lv [.int x] S kc ks :=
  Runs.step (.ireturn, len, a, b, kk, v) h.1 h.2 ⟨x, ty, rfl, hrt, hn, k⟩
theorem R_lret {len a b kk : Nat} {v : Int32} {x : Int64} (h : decode cc pc = .ok (.lreturn, len) ∧ lnkB own ini pc (.lreturn, len, a, b, kk, v) = true) (hrt : rt = some .long) (k : Post (some (.long x)) S) : Runs (Ex d) cc own ini nL rt Z cp Post pc lv [.long x] S kc ks :=
  Runs.step (.lreturn, len, a, b, kk, v) h.1 h.2 ⟨x, rfl, hrt, k⟩
theorem R_ret {len a b kk : Nat} {v : Int32} (h : decode cc pc = .ok (.return_, len) ∧ lnkB own ini pc (.return_, len, a, b, kk, v) = true) (hrt : rt = none) (k : Post none S) : Runs (Ex d) cc own ini nL rt Z cp Post pc lv [] S kc ks :=
  Runs.step (.return_, len, a, b, kk, v) h.1 h.2 ⟨rfl, hrt, k⟩
theorem R_virt {i len a b kk : Nat} {v : Int32} (h : decode cc pc = .ok (.invokevirtual i, len) ∧ lnkB own ini pc (.invokevirtual i, len, a, b, kk, v) = true) (k : Nat) (As : List Value) (mc ms : Nat) (hst : st = As.reverse ++ .ref k :: r) (hna : As.length + 1 = (mt a).2.2.2.2.2) (hok : okO S k (mt a).2.2.2.2.1) (hc : cats r ≤ 8) (hkc : kc + mc ≤ cp.1) (hks : ks + ms ≤ cp.2) (hE : Ex d a (.ref k :: As) S mc ms (fun x S1 => Runs (Ex d) cc own ini nL rt Z cp Post (pc + 3) lv (x.toList ++ r) S1 (kc + mc) (ks + ms))) : Runs (Ex d) cc own ini nL rt Z cp Post pc lv st S kc ks :=
  Runs.step (.invokevirtual i, len, a, b, kk, v) h.1 h.2 ⟨k, As, r, mc, ms, hst, hna, hok, hc, hkc, hks, hE⟩
theorem R_stat {i len a b kk : Nat} {v : Int32} (h : decode cc pc = .ok (.invokestatic i, len) ∧ lnkB own ini pc (.invokestatic i, len, a, b, kk, v) = true) (hb : b ≤ 1) (As : List Value) (mc ms : Nat) (hst : st = As.reverse ++ r) (hna : As.length = (mt a).2.2.2.2.2) (hc : cats r ≤ 8) (hkc : kc + mc ≤ cp.1) (hks : ks + ms ≤ cp.2) (hE : Ex d a As S mc ms (fun x S1 => Runs (Ex d) cc own ini nL rt Z cp Post (pc + 3) lv (x.toList ++ r) S1 (kc + mc) (ks + ms))) : Runs (Ex d) cc own ini nL rt Z cp Post pc lv st S kc ks :=
  Runs.step (.invokestatic i, len, a, b, kk, v) h.1 h.2 (Or.inr ⟨hb, As, r, mc, ms, hst, hna, hc, hkc, hks, hE⟩)
theorem R_spec {i len a b kk : Nat} {v : Int32} (h : decode cc pc = .ok (.invokespecial i, len) ∧ lnkB own ini pc (.invokespecial i, len, a, b, kk, v) = true) (hb : b ≤ 1) (k : Nat) (As : List Value) (mc ms : Nat) (hst : st = As.reverse ++ .ref k :: r) (hna : As.length + 1 = (mt a).2.2.2.2.2) (hc : cats r ≤ 8) (hkc : kc + mc ≤ cp.1) (hks : ks + ms ≤ cp.2) (hE : Ex d a (.ref k :: As) S mc ms (fun x S1 => Runs (Ex d) cc own ini nL rt Z cp Post (pc + 3) lv (x.toList ++ r) S1 (kc + mc) (ks + ms))) : Runs (Ex d) cc own ini nL rt Z cp Post pc lv st S kc ks :=
  Runs.step (.invokespecial i, len, a, b, kk, v) h.1 h.2 (Or.inr ⟨hb, k, As, r, mc, ms, hst, hna, hc, hkc, hks, hE⟩)
theorem clampN {j : Nat} {i : Int32} (hi : i = nI j) (h : j < 2147483648) : i.toNatClampNeg = j := by rw [hi]; exact nI_clamp h
theorem R_iald {len b kk : Nat} {v i : Int32} {k n j : Nat} (h : decode cc pc = .ok (.iaload, len) ∧ lnkB own ini pc (.iaload, len, 0, b, kk, v) = true) (hk : S.1[k]? = some (13, n)) (hi : i = nI j) (hj : j < n) (kx : Runs (Ex d) cc own ini nL rt Z cp Post (pc + 1) lv (.int (S.2.1 k j) :: r) S kc ks) (hn : n < 2147483648 := by decide) : Runs (Ex d) cc own ini nL rt Z cp Post pc lv (.int i :: .ref k :: r) S kc ks :=
  Runs.step (.iaload, len, 0, b, kk, v) h.1 h.2 (Or.inl ⟨_, _, rfl, ⟨n, hk, by rw [hi]; exact vp_in_nI hj hn⟩, by show Runs (Ex d) cc own ini nL rt Z cp Post (pc + 1) lv (.int (S.2.1 k i.toNatClampNeg) :: r) S kc ks; rw [clampN hi (Nat.lt_trans hj hn)]; exact kx⟩)
theorem R_bald {len a b kk : Nat} {v i : Int32} {k n j : Nat} (h : decode cc pc = .ok (.baload, len) ∧ lnkB own ini pc (.baload, len, a, b, kk, v) = true) (hk : S.1[k]? = some (a, n)) (hi : i = nI j) (hj : j < n) (kx : Runs (Ex d) cc own ini nL rt Z cp Post (pc + 1) lv (.int (S.2.1 k j) :: r) S kc ks) (hn : n < 2147483648 := by decide) : Runs (Ex d) cc own ini nL rt Z cp Post pc lv (.int i :: .ref k :: r) S kc ks :=
  Runs.step (.baload, len, a, b, kk, v) h.1 h.2 (Or.inl ⟨_, _, rfl, ⟨n, hk, by rw [hi]; exact vp_in_nI hj hn⟩, by show Runs (Ex d) cc own ini nL rt Z cp Post (pc + 1) lv (.int (S.2.1 k i.toNatClampNeg) :: r) S kc ks; rw [clampN hi (Nat.lt_trans hj hn)]; exact kx⟩)
theorem R_lald {len a b kk : Nat} {v i : Int32} {k n j : Nat} (h : decode cc pc = .ok (.laload, len) ∧ lnkB own ini pc (.laload, len, a, b, kk, v) = true) (hk : S.1[k]? = some (14, n)) (hi : i = nI j) (hj : j < n) (kx : Runs (Ex d) cc own ini nL rt Z cp Post (pc + 1) lv (.long (S.2.2.1 k j) :: r) S kc ks) (hn : n < 2147483648 := by decide) : Runs (Ex d) cc own ini nL rt Z cp Post pc lv (.int i :: .ref k :: r) S kc ks :=
  Runs.step (.laload, len, a, b, kk, v) h.1 h.2 (Or.inl ⟨_, _, rfl, ⟨n, hk, by rw [hi]; exact vp_in_nI hj hn⟩, by show Runs (Ex d) cc own ini nL rt Z cp Post (pc + 1) lv (.long (S.2.2.1 k i.toNatClampNeg) :: r) S kc ks; rw [clampN hi (Nat.lt_trans hj hn)]; exact kx⟩)
theorem R_aald {len a b kk : Nat} {v i : Int32} {k n j k' : Nat} (h : decode cc pc = .ok (.aaload, len) ∧ lnkB own ini pc (.aaload, len, a, b, kk, v) = true) (hk : S.1[k]? = some (16, n)) (hi : i = nI j) (hj : j < n) (hr : S.2.2.2 k j = some k') (kx : Runs (Ex d) cc own ini nL rt Z cp Post (pc + 1) lv (.ref k' :: r) S kc ks) (hn : n < 2147483648 := by decide) : Runs (Ex d) cc own ini nL rt Z cp Post pc lv (.int i :: .ref k :: r) S kc ks :=
  Runs.step (.aaload, len, a, b, kk, v) h.1 h.2 (Or.inl ⟨_, _, rfl, ⟨n, hk, by rw [hi]; exact vp_in_nI hj hn⟩, by show Runs (Ex d) cc own ini nL rt Z cp Post (pc + 1) lv (va_rf (S.2.2.2 k i.toNatClampNeg) :: r) S kc ks; rw [clampN hi (Nat.lt_trans hj hn), hr]; exact kx⟩)
theorem R_iast {len a b kk : Nat} {v i x : Int32} {k n j : Nat} (h : decode cc pc = .ok (.iastore, len) ∧ lnkB own ini pc (.iastore, len, a, b, kk, v) = true) (hk : S.1[k]? = some (13, n)) (hi : i = nI j) (hj : j < n) (kx : Runs (Ex d) cc own ini nL rt Z cp Post (pc + 1) lv r (setI S k j x) kc ks) (hn : n < 2147483648 := by decide) : Runs (Ex d) cc own ini nL rt Z cp Post pc lv (.int x :: .int i :: .ref k :: r) S kc ks :=
  Runs.step (.iastore, len, a, b, kk, v) h.1 h.2 (Or.inl ⟨_, _, rfl, ⟨n, hk, by rw [hi]; exact vp_in_nI hj hn⟩, by show Runs (Ex d) cc own ini nL rt Z cp Post (pc + 1) lv r (setI S k i.toNatClampNeg x) kc ks; rw [clampN hi (Nat.lt_trans hj hn)]; exact kx⟩)
theorem R_bast {len b kk : Nat} {v i x : Int32} {k n j : Nat} (h : decode cc pc = .ok (.bastore, len) ∧ lnkB own ini pc (.bastore, len, 12, b, kk, v) = true) (hk : S.1[k]? = some (12, n)) (hi : i = nI j) (hj : j < n) (kx : Runs (Ex d) cc own ini nL rt Z cp Post (pc + 1) lv r (setI S k j (vp_nar .byte x)) kc ks) (hn : n < 2147483648 := by decide) : Runs (Ex d) cc own ini nL rt Z cp Post pc lv (.int x :: .int i :: .ref k :: r) S kc ks :=
  Runs.step (.bastore, len, 12, b, kk, v) h.1 h.2 (Or.inl ⟨_, _, rfl, ⟨n, hk, by rw [hi]; exact vp_in_nI hj hn⟩, by show Runs (Ex d) cc own ini nL rt Z cp Post (pc + 1) lv r (setI S k i.toNatClampNeg (vp_nar .byte x)) kc ks; rw [clampN hi (Nat.lt_trans hj hn)]; exact kx⟩)
theorem R_zast {len b kk : Nat} {v i x : Int32} {k n j : Nat} (h : decode cc pc = .ok (.bastore, len) ∧ lnkB own ini pc (.bastore, len, 15, b, kk, v) = true) (hk : S.1[k]? = some (15, n)) (hi : i = nI j) (hj : j < n) (hx : vp_nar .boolean x = x) (kx : Runs (Ex d) cc own ini nL rt Z cp Post (pc + 1) lv r (setI S k j x) kc ks) (hn : n < 2147483648 := by decide) : Runs (Ex d) cc own ini nL rt Z cp Post pc lv (.int x :: .int i :: .ref k :: r) S kc ks :=
  Runs.step (.bastore, len, 15, b, kk, v) h.1 h.2 (Or.inl ⟨_, _, rfl, ⟨n, hk, by rw [hi]; exact vp_in_nI hj hn⟩, by show Runs (Ex d) cc own ini nL rt Z cp Post (pc + 1) lv r (setI S k i.toNatClampNeg (vp_nar .boolean x)) kc ks; rw [clampN hi (Nat.lt_trans hj hn), hx]; exact kx⟩)
theorem R_last {len a b kk : Nat} {v i : Int32} {x : Int64} {k n j : Nat} (h : decode cc pc = .ok (.lastore, len) ∧ lnkB own ini pc (.lastore, len, a, b, kk, v) = true) (hk : S.1[k]? = some (14, n)) (hi : i = nI j) (hj : j < n) (kx : Runs (Ex d) cc own ini nL rt Z cp Post (pc + 1) lv r (setL S k j x) kc ks) (hn : n < 2147483648 := by decide) : Runs (Ex d) cc own ini nL rt Z cp Post pc lv (.long x :: .int i :: .ref k :: r) S kc ks :=
  Runs.step (.lastore, len, a, b, kk, v) h.1 h.2 (Or.inl ⟨_, _, rfl, ⟨n, hk, by rw [hi]; exact vp_in_nI hj hn⟩, by show Runs (Ex d) cc own ini nL rt Z cp Post (pc + 1) lv r (setL S k i.toNatClampNeg x) kc ks; rw [clampN hi (Nat.lt_trans hj hn)]; exact kx⟩)
theorem R_sld {len b kk : Nat} {v i : Int32} {n j z : Nat} {xs : Nat → Int32} (h : decode cc pc = .ok (.iaload, len) ∧ lnkB own ini pc (.iaload, len, 1, b, kk, v) = true) (hi : i = nI j) (hj : j < n) (hn : n < 2147483648) (kx : Runs (Ex d) cc own ini nL rt (some (n, xs)) cp Post (pc + 1) lv (.int (xs j) :: r) S kc ks) : Runs (Ex d) cc own ini nL rt (some (n, xs)) cp Post pc lv (.int i :: .retAddr z :: r) S kc ks :=
  Runs.step (.iaload, len, 1, b, kk, v) h.1 h.2 (Or.inl ⟨_, _, rfl, by show vp_in i n; rw [hi]; exact vp_in_nI hj hn, by show Runs (Ex d) cc own ini nL rt (some (n, xs)) cp Post (pc + 1) lv (.int (xs i.toNatClampNeg) :: r) S kc ks; rw [clampN hi (Nat.lt_trans hj hn)]; exact kx⟩)
end RUL
