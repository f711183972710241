/-! ===== what the small machine does, the bytecode does ===== -/
def nestOK (U : State) : Prop := ∀ q ∈ MNT, va_Nw (.methodLinkNest (RN q.1) q.2.1 (mt q.2.2).1 "AnswerDoor") U
theorem nestOK.same {u U : State} (h : u.vm = U.vm) (hN : nestOK u) : nestOK U := fun q hq => va_Nw.same rfl h (hN q hq)
theorem nestOK.warm {s U : State} (hW : s.WarmedH U.vm) (hN : nestOK s) : nestOK U := fun q hq => va_Nw.warmM hW (hN q hq)
def cPre (D : va_G) (cy : Nat → ClassId) (base b : Nat) (As : List Value) (S : Sto) : Array Value → State → Prop := va_Pc (As.map (cv base b)) (fun U => gW D cy base b S U.heap ∧ va_K D clsL (tysOf cy) U ∧ va_AO (RN 2) U ∧ nestOK U)
def cPost (D : va_G) (cy : Nat → ClassId) (base b : Nat) (Post : Option Value → Sto → Prop) : Array Value → State → Outcome → State → Prop := fun _ st oc t => (∃ (r : Option Value) (S' : Sto), oc = .returned (r.map (cv base b)) ∧ Post r S' ∧ gW D cy base b S' t.heap) ∧ va_F (fun q => base ≤ q) st t
def wsM (m : Nat) : List Jvm.Cond := Jvm.Cond.code (mt m).1 (mt m).2.1 (mt m).2.2.1 (mt m).2.2.2.1 :: GT
def rmD (d mc ms : Nat) : Room := { frames := d, cells := mc, slots := ms, locals := 40 * d }
theorem cPre.blind (D : va_G) (cy : Nat → ClassId) (base b : Nat) (As : List Value) (S : Sto) : FrameBlind (cPre D cy base b As S) := by
  intro a U g mk h
  obtain ⟨h1, h2, h3, h4, h5⟩ := h
  exact ⟨h1, h2, va_K.moved (u := U) (U := U.calling g mk a) (Vm.Alike.refl U.vm) h3, va_AO.moved (u := U) (U := U.calling g mk a) (Vm.Alike.refl U.vm) h4, nestOK.same (u := U) (U := U.calling g mk a) rfl h5⟩
theorem MM_all : ∀ m ∈ SMs ++ (VMs ++ IMs), m < MTs.length ∧ (mt m).2.2.2.2.1 ≤ 14 ∧ (mt m).2.2.2.2.1 ≠ 13 ∧ (mt m).2.2.2.2.1 ≠ 12 := by decide +kernel
theorem VM_12 : ∀ m ∈ VMs, (mt m).2.2.2.2.1 < 12 := by decide +kernel
theorem mt_in {m : Nat} (h : m < MTs.length) : mt m ∈ MTs := by
  unfold mt
  rw [List.getD_eq_getElem?_getD, List.getElem?_eq_getElem h]
  exact List.getElem_mem h
theorem wsM_good {m : Nat} (h : m ∈ SMs ++ (VMs ++ IMs)) : GoodIn GT (wsM m) := by
  obtain ⟨h1, -, -, h4⟩ := MM_all m h
  intro w hw
  rcases List.mem_cons.mp hw with rfl | hw
  · exact ⟨GT_in (MT_code (mt_in h1) h4) rfl, good_of_word rfl⟩
  · exact ⟨hw, good_of_word (List.mem_filter.mp hw).2⟩
theorem mt_not {m : Nat} (h : m ∈ SMs ++ (VMs ++ IMs)) : (mt m).1.cls ≠ "java/lang/invoke/MethodHandle" ∧ (mt m).1.cls ≠ "java/lang/invoke/VarHandle" := by
  obtain ⟨h1, h2, h3, -⟩ := MM_all m h
  rw [MT_cls _ (mt_in h1)]
  exact (RN_plain _ h2 h3).2
theorem mt_ini {m : Nat} (h : m ∈ SMs ++ (VMs ++ IMs)) {args : Array Value} {s : State} (hts : ∀ w ∈ GT, w.before args s = true) : (Jvm.Cond.initialized (mt m).1.cls).before args s = true := by
  obtain ⟨h1, h2, -, -⟩ := MM_all m h
  rw [MT_cls _ (mt_in h1)]
  exact hts _ (GT_in (RN_init _ h2) rfl)
/-- contracts of all that E runs -/
def ESnd (l : Launch) (D : va_G) (cy : Nat → ClassId) (base b : Nat) (d : Nat) (E : EX) : Prop := ∀ m As S mc ms Post, E m As S mc ms Post → m ∈ SMs ++ (VMs ++ IMs) ∧ Met l (mt m).1 (wsM m) (rmD d mc ms) (cPre D cy base b As S) (cPost D cy base b Post) mc ms (fun q => base ≤ q)
section GSND
variable {p : Program} {l : Launch} {e : Env} {R : Room} {s : State} {m : MethodId} {args : Array Value} {below : List Frame} {meth : Method} {c : Code} {Q : State → Prop}
variable {cc : ByteArray} {D : va_G} {cy : Nat → ClassId} {base b : Nat} {own nL d : Nat} {ini : Bool} {E : EX} {rt : Option FieldType} {cp : Nat × Nat} {Post : Option Value → Sto → Prop} {Z : Option (Nat × (Nat → Int32))}
theorem g_call {H : Heap} {locs : List Loc} {kc ks mc ms pc : Nat} {ls : Array Slot} {st0 rest : List Value} {a : Array Value} {Post' : Option Value → Sto → Prop}
    (hr : va_Run p l e R s m args below meth c H locs kc ks mc ms (F0 m pc ls st0) rest (cPost D cy base b Post' a) (fun q => base ≤ q)) (hS : va_S (fun q => base ≤ q) s.heap H locs)
    (kk : ∀ (r : Option Value) (S' : Sto) (H1 : Heap) (locs1 : List Loc), Post' r S' → gW D cy base b S' H1 → va_S (fun q => base ≤ q) s.heap H1 locs1 → W p l e R s m args below meth c H1 locs1 (kc + mc) (ks + ms) Q (F0 m (pc + 3) ls ((r.map (cv base b)).toList ++ rest))) : W p l e R s m args below meth c H locs kc ks Q (F0 m pc ls st0) := by
  intro T hT X
  obtain ⟨v, st₀, t, T', L, h0, X', hL, e1, e2, ⟨⟨r, S', hv, hp, hg⟩, hz, hk⟩, st⟩ := hr T hT X
  cases hv
  rw [h0] at hz hk
  obtain ⟨t2, a1, b1⟩ := kk r S' T'.heap (locs ++ L) hp (by rw [e1]; exact hg)
    ⟨Nat.le_trans hS.1 (by rw [e1]; exact hz), fun q h1 h2 => by rw [e1, hk q (Nat.lt_of_lt_of_le h1 hS.1) h2]; exact hS.2.1 q h1 h2, fun q hq => by
      rcases List.mem_append.mp hq with h | h
      · exact hS.2.2 q h
      · exact hL q h⟩ T' rfl X'
  exact ⟨t2, st t2 a1, b1⟩
/-- what stands around a frame -/
def Amb (l : Launch) (p : Program) (R : Room) (s : State) (m : MethodId) (args : Array Value) (meth : Method) (c : Code) (cc : ByteArray) (D : va_G) (cy : Nat → ClassId) (base b own nL d : Nat) (ini : Bool) (E : EX) (cp : Nat × Nat) (Z : Option (Nat × (Nat → Int32))) : Prop :=
  p.tables.exec = Jvm.exec ∧ c.code = cc ∧ c.maxLocals = nL ∧ s.vm.findClass (RN own) = some m.cls ∧ (∀ w ∈ GT, w.before args s = true) ∧ va_K D clsL (tysOf cy) s ∧ va_AO (RN 2) s ∧ nestOK s ∧ (ini = true → meth.name = "<init>") ∧ R.cells = cp.1 ∧ R.slots = cp.2 ∧ d + 1 ≤ R.frames ∧ 40 * (d + 1) ≤ R.locals ∧ ESnd l D cy base b d E ∧
  (∀ n xs, Z = some (n, xs) → va_X b n xs s s.heap ∧ b < s.heap.size ∧ b < base)
/-- the predicate that is closed under the machine's steps -/
def PW (p : Program) (l : Launch) (e : Env) (R : Room) (s : State) (m : MethodId) (args : Array Value) (below : List Frame) (meth : Method) (c : Code) (Q : State → Prop) (D : va_G) (cy : Nat → ClassId) (base b nL : Nat) (cp : Nat × Nat) : PP := fun pc lv st S kc ks =>
  kc ≤ cp.1 → ks ≤ cp.2 → ∀ (H : Heap) (locs : List Loc) (ls : Array Slot), gW D cy base b S H → va_S (fun q => base ≤ q) s.heap H locs → lv_has ls nL (lv.map (cvp base b)) → W p l e R s m args below meth c H locs kc ks Q (F0 m pc ls (st.map (cv base b)))
/-- how the frame may end -/
def Fin3 (p : Program) (l : Launch) (e : Env) (R : Room) (s : State) (m : MethodId) (args : Array Value) (below : List Frame) (meth : Method) (c : Code) (Q : State → Prop) (cc : ByteArray) (D : va_G) (cy : Nat → ClassId) (base b : Nat) (rt : Option FieldType) (cp : Nat × Nat) (Post : Option Value → Sto → Prop) : Prop :=
  (∀ (v : Int32) (ty : FieldType) (S : Sto) (H : Heap) (locs : List Loc) (ls : Array Slot) (pc kc ks : Nat), decode cc pc = .ok (.ireturn, 1) → rt = some ty → narrow ty (.int v) = .int v → Post (some (.int v)) S → gW D cy base b S H → va_S (fun q => base ≤ q) s.heap H locs → kc ≤ cp.1 → ks ≤ cp.2 → W p l e R s m args below meth c H locs kc ks Q (F0 m pc ls [.int v])) ∧
  (∀ (v : Int64) (S : Sto) (H : Heap) (locs : List Loc) (ls : Array Slot) (pc kc ks : Nat), decode cc pc = .ok (.lreturn, 1) → rt = some .long → Post (some (.long v)) S → gW D cy base b S H → va_S (fun q => base ≤ q) s.heap H locs → kc ≤ cp.1 → ks ≤ cp.2 → W p l e R s m args below meth c H locs kc ks Q (F0 m pc ls [.long v])) ∧
  (∀ (S : Sto) (H : Heap) (locs : List Loc) (ls : Array Slot) (pc kc ks : Nat), decode cc pc = .ok (.return_, 1) → rt = none → Post none S → gW D cy base b S H → va_S (fun q => base ≤ q) s.heap H locs → kc ≤ cp.1 → ks ≤ cp.2 → W p l e R s m args below meth c H locs kc ks Q (F0 m pc ls []))
theorem r_map (base b : Nat) (r : Option Value) (rest : List Value) : (r.map (cv base b)).toList ++ rest.map (cv base b) = (r.toList ++ rest).map (cv base b) := by cases r <;> simp
set_option maxHeartbeats 4000000 in
theorem sx_sound (hA : Amb l p R s m args meth c cc D cy base b own nL d ini E cp Z) {i : Instr} {q2 : Nat × Nat × Nat × Nat × Int32} {pc : Nat} {lv : List (Nat × Value)} {st : List Value} {S : Sto} {kc ks : Nat} {c' : CF} {O : Prop} (hdg : decode cc pc = .ok (i, q2.1)) (hk : lnkB own ini pc (i, q2) = true)
    (hs : sx nL Z cp (i, q2) pc lv st S kc ks = some (c', O)) (ho : O) (k : PW p l e R s m args below meth c Q D cy base b nL cp c'.1 c'.2.1 c'.2.2.1 c'.2.2.2.1 c'.2.2.2.2.1 c'.2.2.2.2.2) : PW p l e R s m args below meth c Q D cy base b nL cp pc lv st S kc ks := by
  obtain ⟨len, a, bb, dd, v⟩ := q2
  obtain ⟨hx, hb, hml, hown, hts, hK, hAO, hN, hini, hRc, hRs, hRf, hRl, hE, hZ⟩ := hA
  intro h1 h2 H locs ls hG hS hl
  cases i <;> simp only [sx, lnkB, Bool.and_eq_true, decide_eq_true_eq, reduceCtorEq] at hs hk
  case iconst n =>
    obtain ⟨hv, hlen⟩ := hk; subst hlen
    cases hs
    exact lv_iconst hx hb hdg hv (k h1 h2 H locs ls hG hS hl)
  case bipush n =>
    obtain ⟨hv, hlen⟩ := hk; subst hlen
    cases hs
    exact lv_bipush hx hb hdg hv (k h1 h2 H locs ls hG hS hl)
  case sipush n =>
    obtain ⟨hv, hlen⟩ := hk; subst hlen
    cases hs
    exact lv_sipush hx hb hdg hv (k h1 h2 H locs ls hG hS hl)
  case lconst n =>
    obtain ⟨hv, hlen⟩ := hk; subst hlen
    cases hs
    exact lv_lconst hx hb hdg hv (k h1 h2 H locs ls hG hS hl)
  case ldc n =>
    obtain ⟨hv, hlen⟩ := hk; subst hlen
    cases hs
    exact lv_ldc hx hb hown (hts _ (GT_in (KIT_ok _ hv) rfl)) hdg (k h1 h2 H locs ls hG hS hl)
  case ldc2_w n =>
    obtain ⟨hv, hlen⟩ := hk; subst hlen
    cases hs
    exact lv_ldc2 hx hb hown (hts _ (GT_in (KLT_ok _ hv) rfl)) hdg (k h1 h2 H locs ls hG hS hl)
  case iload_n n =>
    subst hk
    split at hs
    · next x hg => cases hs; exact lv_iload_n hx hb hdg rfl (lget_at hl hg) (k h1 h2 H locs ls hG hS hl)
    · cases hs
  case iload n =>
    subst hk
    split at hs
    · next x hg => cases hs; exact lv_iload hx hb hdg (lget_at hl hg) (k h1 h2 H locs ls hG hS hl)
    · cases hs
  case lload_n n =>
    subst hk
    split at hs
    · next x hg => cases hs; exact lv_lload_n hx hb hdg rfl (lget_at hl hg) (k h1 h2 H locs ls hG hS hl)
    · cases hs
  case aload_n n =>
    subst hk
    split at hs
    · next x hg => cases hs; exact lv_aload_n hx hb hdg rfl (lget_at hl hg) (k h1 h2 H locs ls hG hS hl)
    · next x hg => cases hs; exact lv_aload_n hx hb hdg rfl (lget_at hl hg) (k h1 h2 H locs ls hG hS hl)
    · cases hs
  case aload n =>
    subst hk
    split at hs
    · next x hg => cases hs; exact lv_aload hx hb hdg (lget_at hl hg) (k h1 h2 H locs ls hG hS hl)
    · cases hs
  case istore_n n =>
    subst hk
    split at hs
    · cases hs; exact lv_istore_n hx hb hdg rfl hl ho (lput1_map base b lv _ (.int _)) (fun ls' hl' => k h1 h2 H locs ls' hG hS hl')
    · cases hs
  case istore n =>
    subst hk
    split at hs
    · cases hs; exact lv_istore hx hb hdg hl ho (lput1_map base b lv _ (.int _)) (fun ls' hl' => k h1 h2 H locs ls' hG hS hl')
    · cases hs
  case lstore_n n =>
    subst hk
    split at hs
    · cases hs; exact lv_lstore_n hx hb hdg rfl hl ho (lput2_map base b lv _ (.long _)) (fun ls' hl' => k h1 h2 H locs ls' hG hS hl')
    · cases hs
  case astore_n n =>
    subst hk
    split at hs
    · cases hs; exact lv_astore_n hx hb hdg rfl hl ho (lput1_map base b lv _ (.ref _)) (fun ls' hl' => k h1 h2 H locs ls' hG hS hl')
    · cases hs
  case astore n =>
    subst hk
    split at hs
    · cases hs; exact lv_astore hx hb hdg hl ho (lput1_map base b lv _ (.ref _)) (fun ls' hl' => k h1 h2 H locs ls' hG hS hl')
    · cases hs
  case iinc n w =>
    obtain ⟨hv, hlen⟩ := hk; subst hlen
    split at hs
    · next x hg =>
      cases hs
      obtain ⟨j, hj⟩ := List.getElem?_of_mem (List.mem_map.mpr ⟨_, lget_mem hg, rfl⟩ : cvp base b (n, .int x) ∈ lv.map (cvp base b))
      exact lv_iinc hx hb hdg hl hj (by rw [hv]) ho (lput1_map base b lv n (.int (x + v))) (fun ls' hl' => k h1 h2 H locs ls' hG hS hl')
    · cases hs
  case iadd => subst hk; split at hs; · cases hs; exact lv_iadd hx hb hdg (k h1 h2 H locs ls hG hS hl)
               · cases hs
  case isub => subst hk; split at hs; · cases hs; exact lv_isub hx hb hdg (k h1 h2 H locs ls hG hS hl)
               · cases hs
  case imul => subst hk; split at hs; · cases hs; exact lv_imul hx hb hdg (k h1 h2 H locs ls hG hS hl)
               · cases hs
  case iand => subst hk; split at hs; · cases hs; exact lv_iand hx hb hdg (k h1 h2 H locs ls hG hS hl)
               · cases hs
  case ior => subst hk; split at hs; · cases hs; exact lv_ior hx hb hdg (k h1 h2 H locs ls hG hS hl)
              · cases hs
  case ishl => subst hk; split at hs; · cases hs; exact lv_ishl hx hb hdg (k h1 h2 H locs ls hG hS hl)
               · cases hs
  case ishr => subst hk; split at hs; · cases hs; exact lv_ishr hx hb hdg (k h1 h2 H locs ls hG hS hl)
               · cases hs
  case iushr => subst hk; split at hs; · cases hs; exact lv_iushr hx hb hdg rfl (k h1 h2 H locs ls hG hS hl)
                · cases hs
  case idiv => subst hk; split at hs; · cases hs; exact lv_idiv hx hb hdg ho (k h1 h2 H locs ls hG hS hl)
               · cases hs
  case irem => subst hk; split at hs; · cases hs; exact lv_irem hx hb hdg ho (k h1 h2 H locs ls hG hS hl)
               · cases hs
  case ladd => subst hk; split at hs; · cases hs; exact lv_ladd hx hb hdg (k h1 h2 H locs ls hG hS hl)
               · cases hs
  case lmul => subst hk; split at hs; · cases hs; exact lv_lmul hx hb hdg (k h1 h2 H locs ls hG hS hl)
               · cases hs
  case lcmp =>
    subst hk
    split at hs
    · next y x r =>
      cases hs
      exact W.lcmp hx hb hdg (k h1 h2 H locs ls hG hS hl)
    · cases hs
  case i2l => subst hk; split at hs; · cases hs; exact lv_i2l hx hb hdg rfl (k h1 h2 H locs ls hG hS hl)
              · cases hs
  case l2i => subst hk; split at hs; · cases hs; exact lv_l2i hx hb hdg rfl (k h1 h2 H locs ls hG hS hl)
              · cases hs
  case i2b => subst hk; split at hs; · cases hs; exact lv_i2b hx hb hdg rfl (k h1 h2 H locs ls hG hS hl)
              · cases hs
  case dup => subst hk; split at hs; · cases hs; exact lv_dup hx hb hdg (by rw [cat_cv']; exact ho) (k h1 h2 H locs ls hG hS hl)
              · cases hs
  case dup2 => subst hk; split at hs; · cases hs; exact lv_dup2_11 hx hb hdg (by rw [cat_cv']; exact ho.1) (by rw [cat_cv']; exact ho.2) (k h1 h2 H locs ls hG hS hl)
               · cases hs
  case pop => subst hk; split at hs; · cases hs; exact lv_pop hx hb hdg (by rw [cat_cv']; exact ho) (k h1 h2 H locs ls hG hS hl)
              · cases hs
  case getfield n =>
    obtain ⟨⟨hf, hd⟩, hlen⟩ := hk; subst hlen; subst hd
    split at hs
    · cases hs; exact g_get hx hb hts hown hK hG ho hf hdg (k h1 h2 H locs ls hG hS hl)
    · cases hs
  case putfield n =>
    obtain ⟨⟨⟨hf, hd⟩, hlen⟩, hfin⟩ := hk
    have hfin' : (TN a bb).2.2.2 = false ∨ (meth.name = "<init>" ∧ own = a) := by
      simp only [Bool.or_eq_true, Bool.not_eq_true', Bool.and_eq_true, decide_eq_true_eq] at hfin
      rcases hfin with q | ⟨q, q'⟩
      · exact Or.inl q
      · exact Or.inr ⟨hini q, q'⟩
    obtain ⟨ha1, hfb⟩ := FLT_in _ hf
    subst hlen
    split at hs
    · next x k' r =>
      cases hs
      refine g_put (v := .int x) (S' := setI S k' bb x) hx hb hts hown hK hG hS ho.1 hf hfin' ho.2.1 ho.2.2 rfl (setI_ho S k' bb x) (fun j hj => ?_) hdg (fun H1 locs1 hG1 hS1 => k h1 h2 H1 locs1 ls hG1 hS1 hl)
      by_cases ej : j = bb
      · subst ej
        rw [hd]
        simp [fvG, setI, up2_row, va_up]
      · rw [if_neg ej]
        unfold fvG
        split <;> simp [setI, up2_row, va_up, ej]
    · next x k' r =>
      cases hs
      have e1 := tyK1 ha1 hfb hd
      have e1 : tyN a bb = .long := e1
      refine g_put (v := .long x) (S' := setL S k' bb x) hx hb hts hown hK hG hS ho hf hfin' (by rw [e1]; rfl) (by rw [e1]; rfl) rfl (setL_ho S k' bb x) (fun j hj => ?_) hdg (fun H1 locs1 hG1 hS1 => k h1 h2 H1 locs1 ls hG1 hS1 hl)
      by_cases ej : j = bb
      · subst ej
        rw [hd]
        simp [fvG, setL, up2_row, va_up]
      · rw [if_neg ej]
        unfold fvG
        split <;> simp [setL, up2_row, va_up, ej]
    · next x k' r =>
      cases hs
      have e1 := tyK2 ha1 hfb hd (base + x)
      refine g_put (v := .ref x) (S' := setR S k' bb (some x)) hx hb hts hown hK hG hS ho hf hfin' e1.1 e1.2 rfl (setR_ho S k' bb (some x)) (fun j hj => ?_) hdg (fun H1 locs1 hG1 hS1 => k h1 h2 H1 locs1 ls hG1 hS1 hl)
      by_cases ej : j = bb
      · subst ej
        rw [hd]
        simp [fvG, setR, up2_row, va_up, va_rf]
      · rw [if_neg ej]
        unfold fvG
        split <;> simp [setR, up2_row, va_up, ej]
    · cases hs
  case iaload =>
    subst hk
    split at hs
    · cases hs; exact g_iald hx hb hK hG ho hdg (k h1 h2 H locs ls hG hS hl)
    · split at hs
      · next n xs =>
        cases hs
        obtain ⟨z1, z2, z3⟩ := hZ n xs rfl
        exact va_sld hx hb z1 z2 (A := fun q => base ≤ q) (Nat.not_le.mpr z3) hS ho hdg (k h1 h2 H locs ls hG hS hl)
      · cases hs
    · cases hs
  case baload =>
    obtain ⟨ha, hlen⟩ := hk; subst hlen
    split at hs
    · cases hs; exact g_bald hx hb hK hG (by simpa using ha) ho hdg (k h1 h2 H locs ls hG hS hl)
    · cases hs
  case laload => subst hk; split at hs; · cases hs; exact g_lald hx hb hK hG ho hdg (k h1 h2 H locs ls hG hS hl)
                 · cases hs
  case aaload => subst hk; split at hs; · cases hs; exact g_aald hx hb hK hG ho hdg (k h1 h2 H locs ls hG hS hl)
                 · cases hs
  case iastore => subst hk; split at hs; · cases hs; exact g_iast hx hb hK hG hS ho hdg (fun H1 locs1 hG1 hS1 => k h1 h2 H1 locs1 ls hG1 hS1 hl)
                  · cases hs
  case bastore =>
    subst hk
    split at hs
    · cases hs; exact g_bast hx hb hK hG hS ho hdg (fun H1 locs1 hG1 hS1 => k h1 h2 H1 locs1 ls hG1 hS1 hl)
    · cases hs; exact g_zast hx hb hK hG hS ho hdg (fun H1 locs1 hG1 hS1 => k h1 h2 H1 locs1 ls hG1 hS1 hl)
    · cases hs
  case lastore => subst hk; split at hs; · cases hs; exact g_last hx hb hK hG hS ho hdg (fun H1 locs1 hG1 hS1 => k h1 h2 H1 locs1 ls hG1 hS1 hl)
                  · cases hs
  case aastore => subst hk; split at hs; · cases hs; exact g_aast hx hb hK hG hS ho.1 ho.2 hdg (fun H1 locs1 hG1 hS1 => k h1 h2 H1 locs1 ls hG1 hS1 hl)
                  · cases hs
  case arraylength =>
    subst hk
    split at hs
    · split at hs
      · next c0 n hc0 =>
        cases hs
        subst ho
        exact g_alen hx hb hK hG hc0 hdg (k h1 h2 H locs ls hG hS hl)
      · cases hs
    · split at hs
      · next n xs =>
        cases hs
        obtain ⟨z1, z2, z3⟩ := hZ n _ rfl
        exact va_slen hx hb z1 z2 (A := fun q => base ≤ q) (Nat.not_le.mpr z3) hS hdg (k h1 h2 H locs ls hG hS hl)
      · cases hs
    · cases hs
  case new n =>
    obtain ⟨hf, hlen⟩ := hk; subst hlen
    cases hs
    exact g_new hx hb hts hown hK hG hS hf (by rw [hRc]; exact ho.1) (by rw [hRs]; exact ho.2) hdg (fun H1 hG1 hS1 => k ho.1 ho.2 H1 locs ls hG1 hS1 hl)
  case newarray t =>
    obtain ⟨hlen, ha⟩ := hk; subst hlen
    split at hs
    · cases hs
      obtain ⟨o1, o2, o3, o4⟩ := ho
      exact g_newa hx hb hts hK hG hS ha o1 o2 (by rw [hRc]; exact o3) (by rw [hRs]; exact o4) hdg (fun H1 hG1 hS1 => k o3 o4 H1 locs ls hG1 hS1 hl)
    · cases hs
  case anewarray n =>
    obtain ⟨hf, hlen⟩ := hk; subst hlen
    split at hs
    · cases hs
      obtain ⟨o1, o2, o3, o4⟩ := ho
      exact g_newq hx hb hts hown hAO hK hG hS hf o1 o2 (by rw [hRc]; exact o3) (by rw [hRs]; exact o4) hdg (fun H1 hG1 hS1 => k o3 o4 H1 locs ls hG1 hS1 hl)
    · cases hs
  case invokestatic n =>
    obtain ⟨hlen, hk⟩ := hk; subst hlen
    split at hs
    · next y x r =>
      cases hs
      have hm : (own, n, 0) ∈ MMT := of_decide_eq_true hk
      have hc8 : ((r.map (cv base b)).map fun v => v.category).sum ≤ 8 := by rw [cats_cv]; exact ho
      exact va_mmin hx hb (hml.trans hl.1.symm) hown (hts _ (GT_in (MMT_ok _ hm) rfl)) (hts _ (GT_in MM_st.1 rfl)) (hts _ (GT_in MM_st.2.2 rfl)) (hts _ (GT_in MM_c0 rfl)) (by omega) (by omega) (by rw [hRc]; exact h1) (by rw [hRs]; exact h2) hdg (k h1 h2 H locs ls hG hS hl)
    · next y x r =>
      cases hs
      have hm : (own, n, 1) ∈ MMT := of_decide_eq_true hk
      have hc8 : ((r.map (cv base b)).map fun v => v.category).sum ≤ 8 := by rw [cats_cv]; exact ho
      exact va_mmin_long hx hb (hml.trans hl.1.symm) hown (hts _ (GT_in (MMT_ok _ hm) rfl)) (hts _ (GT_in MM_st.2.1 rfl)) (hts _ (GT_in MM_st.2.2 rfl)) (hts _ (GT_in MM_c1 rfl)) (by omega) (by omega) (by rw [hRc]; exact h1) (by rw [hRs]; exact h2) hdg (k h1 h2 H locs ls hG hS hl)
    · cases hs
  case invokespecial n =>
    obtain ⟨hlen, hk⟩ := hk; subst hlen
    split at hs
    · next k' r =>
      cases hs
      have hm : (own, n) ∈ OIT := of_decide_eq_true hk
      have hc8 : ((r.map (cv base b)).map fun v => v.category).sum ≤ 8 := by rw [cats_cv]; exact ho
      have hc9 := lv_room (m := m) (pc := pc) (ls := ls) (rest := .ref (base + k') :: r.map (cv base b)) hc8
      exact W.objInit hx hb hown (hts _ (GT_in (OIT_ok _ hm) rfl)) (hts _ (GT_in OI_ok rfl)) (hts _ (GT_in OI_code rfl)) rfl (by rw [hml]; exact hl.1) rfl hdg (by omega) (by have hc10 : 2 * (F0 m pc ls (List.map (cv base b) (Value.ref k' :: r))).monitorRoom + ((r.map (cv base b)).map fun v => v.category).sum ≤ 8 := hc9; omega) (k h1 h2 H locs ls hG hS hl)
    · cases hs
set_option maxHeartbeats 4000000 in
/-- the walk's predicate is closed under the machine's steps -/
theorem snd_clo (hA : Amb l p R s m args meth c cc D cy base b own nL d ini E cp Z) (hF : Fin3 p l e R s m args below meth c Q cc D cy base b rt cp Post) : Clo E cc own ini nL rt Z cp Post (PW p l e R s m args below meth c Q D cy base b nL cp) := by
  intro pc lv st S kc ks hq
  obtain ⟨⟨i, len, a, bb, dd, v⟩, hdg, hk, h⟩ := hq
  have hA0 := hA
  obtain ⟨hx, hb, hml, hown, hts, hK, hAO, hN, hini, hRc, hRs, hRf, hRl, hE, hZ⟩ := hA
  have callOK : ∀ {y : Nat}, y ∈ SMs ++ (VMs ++ IMs) → ∀ mc ms : Nat, (rmD d mc ms).frames + 1 ≤ R.frames ∧ 8 + ((mt y).2.2.1 + 11) + (rmD d mc ms).locals ≤ R.locals := by
    intro y hy mc ms
    have h20 := MT_nL _ (mt_in (MM_all y hy).1)
    exact ⟨hRf, by show 8 + ((mt y).2.2.1 + 11) + 40 * d ≤ R.locals; omega⟩
  have pre : ∀ {H : Heap} (As : List Value) {S : Sto}, gW D cy base b S H → ∀ U : State, U.heap = H → s.WarmedH U.vm → cPre D cy base b As S (As.map (cv base b)).toArray U := by
    intro H As S hG U hU hW
    exact ⟨rfl, by rw [hU]; exact hG, va_K.moved hW.alike hK, va_AO.moved hW.alike hAO, hN.warm hW⟩
  cases i
  case if_icmp cd o =>
    obtain ⟨x, y, r, rfl, ht, hf⟩ := h
    simp only [lnkB, Bool.and_eq_true, decide_eq_true_eq] at hk
    obtain ⟨htg, hlen⟩ := hk; subst hlen
    intro h1 h2 H locs ls hG hS hl
    cases cd
    case eq => exact lv_icmp_eq hx hb hdg htg (fun c => ht c h1 h2 H locs ls hG hS hl) (fun c => hf c h1 h2 H locs ls hG hS hl)
    case ne => exact lv_icmp_ne hx hb hdg htg (fun c => ht c h1 h2 H locs ls hG hS hl) (fun c => hf (fun n => n c) h1 h2 H locs ls hG hS hl)
    case lt => exact lv_icmp_lt hx hb hdg htg (fun c => ht c h1 h2 H locs ls hG hS hl) (fun c => hf c h1 h2 H locs ls hG hS hl)
    case ge => exact lv_icmp_ge hx hb hdg htg (fun c => ht c h1 h2 H locs ls hG hS hl) (fun c => hf c h1 h2 H locs ls hG hS hl)
    case gt => exact lv_icmp_gt hx hb hdg htg (fun c => ht c h1 h2 H locs ls hG hS hl) (fun c => hf c h1 h2 H locs ls hG hS hl)
    case le => exact lv_icmp_le hx hb hdg htg (fun c => ht c h1 h2 H locs ls hG hS hl) (fun c => hf c h1 h2 H locs ls hG hS hl)
  case ifCond cd o =>
    obtain ⟨x, r, rfl, ht, hf⟩ := h
    simp only [lnkB, Bool.and_eq_true, decide_eq_true_eq] at hk
    obtain ⟨htg, hlen⟩ := hk; subst hlen
    intro h1 h2 H locs ls hG hS hl
    cases cd
    case eq => exact lv_if_eq hx hb hdg htg (fun c => ht c h1 h2 H locs ls hG hS hl) (fun c => hf c h1 h2 H locs ls hG hS hl)
    case ne => exact lv_if_ne hx hb hdg htg (fun c => ht c h1 h2 H locs ls hG hS hl) (fun c => hf (fun n => n c) h1 h2 H locs ls hG hS hl)
    case lt => exact lv_if_lt hx hb hdg htg (fun c => ht c h1 h2 H locs ls hG hS hl) (fun c => hf c h1 h2 H locs ls hG hS hl)
    case ge => exact lv_if_ge hx hb hdg htg (fun c => ht c h1 h2 H locs ls hG hS hl) (fun c => hf c h1 h2 H locs ls hG hS hl)
    case gt => exact lv_if_gt hx hb hdg htg (fun c => ht c h1 h2 H locs ls hG hS hl) (fun c => hf c h1 h2 H locs ls hG hS hl)
    case le => exact lv_if_le hx hb hdg htg (fun c => ht c h1 h2 H locs ls hG hS hl) (fun c => hf c h1 h2 H locs ls hG hS hl)
  case goto o =>
    simp only [lnkB, Bool.and_eq_true, decide_eq_true_eq] at hk
    obtain ⟨htg, hlen⟩ := hk; subst hlen
    intro h1 h2 H locs ls hG hS hl
    exact lv_goto hx hb hdg htg (h h1 h2 H locs ls hG hS hl)
  case tableswitch df lo hi offs =>
    obtain ⟨x, r, t, rfl, hsw, kk⟩ := h
    intro h1 h2 H locs ls hG hS hl
    simp only [swT] at hsw
    split at hsw
    · next hout => exact lv_tableOut hx hb hdg hout (Option.some.inj hsw) (kk h1 h2 H locs ls hG hS hl)
    · next hin =>
      obtain ⟨off, ho, ht⟩ := Option.map_eq_some_iff.mp hsw
      exact lv_tableIn hx hb hdg (fun q => hin (Or.inl q)) (fun q => hin (Or.inr q)) ho ht (kk h1 h2 H locs ls hG hS hl)
  case lookupswitch df ps =>
    obtain ⟨x, r, t, rfl, hsw, kk⟩ := h
    intro h1 h2 H locs ls hG hS hl
    simp only [swT] at hsw
    simp only [lnkB] at hk
    exact lv_lookup hx hb hdg hk rfl (Option.some.inj hsw) (kk h1 h2 H locs ls hG hS hl)
  case ireturn =>
    obtain ⟨w, ty, rfl, hrt, hn, hpost⟩ := h
    simp only [lnkB, decide_eq_true_eq] at hk
    subst hk
    intro h1 h2 H locs ls hG hS hl
    exact hF.1 w ty S H locs ls pc kc ks hdg hrt hn hpost hG hS h1 h2
  case lreturn =>
    obtain ⟨w, rfl, hrt, hpost⟩ := h
    simp only [lnkB, decide_eq_true_eq] at hk
    subst hk
    intro h1 h2 H locs ls hG hS hl
    exact hF.2.1 w S H locs ls pc kc ks hdg hrt hpost hG hS h1 h2
  case return_ =>
    obtain ⟨rfl, hrt, hpost⟩ := h
    simp only [lnkB, decide_eq_true_eq] at hk
    subst hk
    intro h1 h2 H locs ls hG hS hl
    exact hF.2.2 S H locs ls pc kc ks hdg hrt hpost hG hS h1 h2
  case invokevirtual n =>
    obtain ⟨k', As, rest, mc, ms, rfl, hna, hok, hcat, hc1, hc2, hEx⟩ := h
    simp only [lnkB, Bool.and_eq_true, decide_eq_true_eq] at hk
    obtain ⟨⟨⟨hlen, hml2⟩, hvm⟩, hb0⟩ := hk; subst hlen
    obtain ⟨hm, hM⟩ := hE _ _ _ _ _ _ hEx
    intro h1 h2 H locs ls hG hS hl
    have hc := VM_12 _ hvm
    have hna' := VM_na _ (List.mem_append_left _ hvm)
    have recv : ∃ cellB : Cell, H[base + k']? = some cellB ∧ cellB.vm.isStatics = false ∧ s.vm.findClass (RN (mt a).2.2.2.2.1) = some cellB.cls := by
      have h := hG.2 k' _ _ hok
      unfold cellOK at h
      rw [if_pos hc] at h
      obtain ⟨-, cell, q1, q2, q3, q4⟩ := h
      exact ⟨cell, q1, by rw [q3]; rfl, by rw [q2]; exact (hK.1 _ _ (clsL_at hc)).2.1⟩
    have hn : As.length = (mt a).2.2.2.2.2 - 1 := by
      have : As.length + 1 = (mt a).2.2.2.2.2 := hna
      omega
    refine g_call (va_runV (As := As.map (cv base b)) (rest := rest.map (cv base b)) (b := base + k') (C := RN (mt a).2.2.2.2.1) ⟨hx, hb, hml, hown, hts⟩ hM ⟨callB_of _ hts (wsM_good hm) rfl rfl rfl (mt_ini hm hts) (hts _ (GT_in (MLT_ok _ hml2) rfl)) ⟨(mt_not hm).1, (mt_not hm).2, hna'.1⟩ (callOK hm mc ms), hts _ (GT_in (VM_ok _ hvm).1 rfl), hts _ (GT_in (VM_ok _ hvm).2 rfl)⟩
      ⟨cPre.blind _ _ _ _ _ _, recv, pre (.ref k' :: As) hG⟩ rfl (by rw [List.length_map]; exact hn) hl.1 (by simp [List.map_append, List.map_reverse, cv]) (lv_room (by rw [cats_cv]; exact hcat)) hdg ⟨by rw [hRc]; exact hc1, by rw [hRs]; exact hc2⟩) hS (fun r S' H1 locs1 hp hG1 hS1 => ?_)
    rw [r_map]
    exact hp hc1 hc2 H1 locs1 ls hG1 hS1 hl
  case invokestatic n =>
    rcases h with ⟨c', O, hs, ho, kk⟩ | ⟨hb1, As, rest, mc, ms, rfl, hna, hcat, hc1, hc2, hEx⟩
    · exact sx_sound hA0 hdg hk hs ho kk
    · simp only [lnkB, Bool.and_eq_true, decide_eq_true_eq] at hk
      obtain ⟨hlen, hk⟩ := hk; subst hlen
      obtain ⟨hm, hM⟩ := hE _ _ _ _ _ _ hEx
      intro h1 h2 H locs ls hG hS hl
      have hb1 : bb ≤ 1 := hb1
      have hb01 : bb = 0 ∨ bb = 1 := by omega
      have hn : As.length = (mt a).2.2.2.2.2 := hna
      rcases hb01 with rfl | rfl
      · simp only [Bool.and_eq_true, decide_eq_true_eq] at hk
        refine g_call (va_runS (As := As.map (cv base b)) (rest := rest.map (cv base b)) ⟨hx, hb, hml, hown, hts⟩ hM ⟨callB_of _ hts (wsM_good hm) rfl rfl rfl (mt_ini hm hts) (hts _ (GT_in (MLT_ok _ hk.1) rfl)) ⟨(mt_not hm).1, (mt_not hm).2, SM_na _ hk.2⟩ (callOK hm mc ms), hts _ (GT_in (SM_ok _ hk.2) rfl)⟩
          ⟨cPre.blind _ _ _ _ _ _, pre As hG⟩ rfl (by rw [List.length_map]; exact hn) hl.1 (by simp [List.map_append, List.map_reverse]) (lv_room (by rw [cats_cv]; exact hcat)) hdg ⟨by rw [hRc]; exact hc1, by rw [hRs]; exact hc2⟩) hS (fun r S' H1 locs1 hp hG1 hS1 => ?_)
        rw [r_map]
        exact hp hc1 hc2 H1 locs1 ls hG1 hS1 hl
      · simp only [Bool.and_eq_true, decide_eq_true_eq] at hk
        refine g_call (va_runSN (As := As.map (cv base b)) (rest := rest.map (cv base b)) ⟨hx, hb, hml, hown, hts⟩ hM ⟨va_cnB _ hts (wsM_good hm) rfl rfl rfl (hN _ hk.1) (mt_ini hm hts) ⟨(mt_not hm).1, (mt_not hm).2, SM_na _ hk.2⟩ (callOK hm mc ms), hts _ (GT_in (SM_ok _ hk.2) rfl), trivial⟩
          ⟨cPre.blind _ _ _ _ _ _, pre As hG⟩ rfl (by rw [List.length_map]; exact hn) hl.1 (by simp [List.map_append, List.map_reverse]) (lv_room (by rw [cats_cv]; exact hcat)) hdg ⟨by rw [hRc]; exact hc1, by rw [hRs]; exact hc2⟩) hS (fun r S' H1 locs1 hp hG1 hS1 => ?_)
        rw [r_map]
        exact hp hc1 hc2 H1 locs1 ls hG1 hS1 hl
  case invokespecial n =>
    rcases h with ⟨c', O, hs, ho, kk⟩ | ⟨hb1, k', As, rest, mc, ms, rfl, hna, hcat, hc1, hc2, hEx⟩
    · exact sx_sound hA0 hdg hk hs ho kk
    · simp only [lnkB, Bool.and_eq_true, decide_eq_true_eq] at hk
      obtain ⟨hlen, hk⟩ := hk; subst hlen
      obtain ⟨hm, hM⟩ := hE _ _ _ _ _ _ hEx
      intro h1 h2 H locs ls hG hS hl
      have hb1 : bb ≤ 1 := hb1
      have hb01 : bb = 0 ∨ bb = 1 := by omega
      rcases hb01 with rfl | rfl
      · simp only [Bool.and_eq_true, decide_eq_true_eq] at hk
        have hI := IM_ok _ hk.2
        have hna' := VM_na _ (List.mem_append_right _ hk.2)
        have hn : As.length = (mt a).2.2.2.2.2 - 1 := by
          have : As.length + 1 = (mt a).2.2.2.2.2 := hna
          omega
        have hcb := callB_of (bytes := (mt a).2.1) (maxL := (mt a).2.2.1) (ret := (mt a).2.2.2.1) _ hts (wsM_good hm) rfl (rm := rmD d mc ms) rfl rfl (mt_ini hm hts) (hts _ (GT_in (MLT_ok _ hk.1) rfl)) ⟨(mt_not hm).1, (mt_not hm).2, hna'.1⟩ (callOK hm mc ms)
        rw [hI.2.2] at hcb
        refine g_call (va_runI (As := As.map (cv base b)) (rest := rest.map (cv base b)) (b := base + k') ⟨hx, hb, hml, hown, hts⟩ hM ⟨hcb, hI.2.1, hts _ (GT_in hI.1 rfl)⟩
          ⟨cPre.blind _ _ _ _ _ _, pre (.ref k' :: As) hG⟩ rfl (by rw [List.length_map]; exact hn) hl.1 (by simp [List.map_append, List.map_reverse, cv]) (lv_room (by rw [cats_cv]; exact hcat)) hdg ⟨by rw [hRc]; exact hc1, by rw [hRs]; exact hc2⟩) hS (fun r S' H1 locs1 hp hG1 hS1 => ?_)
        rw [r_map]
        exact hp hc1 hc2 H1 locs1 ls hG1 hS1 hl
      · simp only [Bool.and_eq_true, decide_eq_true_eq] at hk
        have hI := IM_ok _ hk.2
        have hna' := VM_na _ (List.mem_append_right _ hk.2)
        have hn : As.length = (mt a).2.2.2.2.2 - 1 := by
          have : As.length + 1 = (mt a).2.2.2.2.2 := hna
          omega
        have hcb := va_cnB (bytes := (mt a).2.1) (maxL := (mt a).2.2.1) (ret := (mt a).2.2.2.1) _ hts (wsM_good hm) rfl (rm := rmD d mc ms) rfl rfl (hN _ hk.1) (mt_ini hm hts) ⟨(mt_not hm).1, (mt_not hm).2, hna'.1⟩ (callOK hm mc ms)
        rw [hI.2.2] at hcb
        refine g_call (va_runIN (As := As.map (cv base b)) (rest := rest.map (cv base b)) (b := base + k') ⟨hx, hb, hml, hown, hts⟩ hM ⟨hcb, hI.2.1, hts _ (GT_in hI.1 rfl)⟩
          ⟨cPre.blind _ _ _ _ _ _, pre (.ref k' :: As) hG⟩ rfl (by rw [List.length_map]; exact hn) hl.1 (by simp [List.map_append, List.map_reverse, cv]) (lv_room (by rw [cats_cv]; exact hcat)) hdg ⟨by rw [hRc]; exact hc1, by rw [hRs]; exact hc2⟩) hS (fun r S' H1 locs1 hp hG1 hS1 => ?_)
        rw [r_map]
        exact hp hc1 hc2 H1 locs1 ls hG1 hS1 hl
  all_goals
    rcases h with ⟨c', O, hs, ho, kk⟩ | h
    · exact sx_sound hA0 hdg hk hs ho kk
    · exact False.elim h
end GSND
theorem lv_args_map (base b : Nat) : ∀ (As : List Value) (i : Nat), lv_args i (As.map (cv base b)) = (lv_args i As).map (cvp base b)
  | [], _ => rfl
  | v :: vs, i => by
    simp only [List.map_cons, lv_args, cat_cv', cvp]
    rw [lv_args_map base b vs]
theorem lg_sl_len (base b : Nat) : ∀ As : List Value, (lg_sl (As.map (cv base b))).length = cats As
  | [] => rfl
  | v :: vs => by
    have ih := lg_sl_len base b vs
    unfold lg_sl at ih ⊢
    unfold cats at ih ⊢
    simp only [List.map_cons, List.flatMap_cons, List.length_append, ih, List.sum_cons, cat_cv']
    rcases lv_cat v with h | h <;> simp [h]
set_option maxHeartbeats 4000000 in
/-- every call of the small machine is one of the bytecode -/
theorem sound (l : Launch) (D : va_G) (cy : Nat → ClassId) (base b : Nat) : ∀ d, ESnd l D cy base b d (Ex d)
  | 0 => fun _ _ _ _ _ _ h => h.elim
  | d + 1 => by
    intro m As S mc ms Post h
    obtain ⟨hm, hw, hR⟩ := h
    refine ⟨hm, ?_⟩
    obtain ⟨hmt, hm14, hm13, hm12⟩ := MM_all m hm
    have hcls := MT_cls _ (mt_in hmt)
    refine Met.ofW (cc := (mt m).2.1) (maxL := (mt m).2.2.1) (ret := (mt m).2.2.2.1) (by rw [hcls]; exact (RN_plain _ hm14 hm13).1) rfl ?_
    intro p e s mid args below meth c s₁ B hml hv
    obtain ⟨rfl, hG, hK, hAO, hN⟩ := hv
    have hts0 := atoms_spec (ws := wsM m) B.pre
    have hts : ∀ w ∈ GT, w.before (As.map (cv base b)).toArray s = true := fun w hw => hts0 w (List.mem_cons_of_mem _ hw)
    have hown : s.vm.findClass (RN (mt m).2.2.2.2.1) = some mid.cls := by
      rw [← hcls]; exact findClass_of_methodNamed B.named
    have hlocks := B.notSynchronized
    have hr := B.returns
    have hini : isIni m = true → meth.name = "<init>" := by
      intro h
      have h1 : m ∈ IMs := of_decide_eq_true h
      rw [(name_of_methodNamed B.named B.method).1]
      exact (IM_ok m h1).2.1
    have hA : Amb l p (headSpec (wsM m) (rmD (d + 1) mc ms)).room s mid (As.map (cv base b)).toArray meth c (mt m).2.1 D cy base b (mt m).2.2.2.2.1 (mt m).2.2.1 d (isIni m) (Ex d) (mc, ms) none :=
      ⟨B.exec, B.bytes, hml, hown, hts, hK, hAO, hN, hini, rfl, rfl, Nat.le_refl _, Nat.le_refl _, sound l D cy base b d, fun n xs h => by cases h⟩
    have hF : Fin3 p l e (headSpec (wsM m) (rmD (d + 1) mc ms)).room s mid (As.map (cv base b)).toArray below meth c (MQ below (cPost D cy base b Post) (As.map (cv base b)).toArray s mc ms (fun q => base ≤ q)) (mt m).2.1 D cy base b (mt m).2.2.2.1 (mc, ms) Post := by
      refine ⟨?_, ?_, ?_⟩
      · intro v ty S H locs ls pc kc ks hdg hrt hn hpost hG hS h1 h2
        refine W.widen (k := mc) (n := ms) h1 h2 ?_
        exact W.zret B.exec B.bytes (hr.trans hrt) hn (fun t ht hW => ⟨⟨some (.int v), S, rfl, hpost, by rw [ht]; exact hG⟩, hS.F ht⟩) hS.2.2 hdg
      · intro v S H locs ls pc kc ks hdg hrt hpost hG hS h1 h2
        refine W.widen (k := mc) (n := ms) h1 h2 ?_
        exact W.lret B.exec B.bytes (hr.trans hrt) (fun t ht hW => ⟨⟨some (.long v), S, rfl, hpost, by rw [ht]; exact hG⟩, hS.F ht⟩) hS.2.2 hdg
      · intro S H locs ls pc kc ks hdg hrt hpost hG hS h1 h2
        refine W.widen (k := mc) (n := ms) h1 h2 ?_
        exact W.vret B.exec B.bytes (hr.trans hrt) (fun t ht hW => ⟨⟨none, S, rfl, hpost, by rw [ht]; exact hG⟩, hS.F ht⟩) hS.2.2 hdg
    have hP := hR _ (snd_clo hA hF) (Nat.zero_le _) (Nat.zero_le _) s.heap []
    have hl := lv_entry (As.map (cv base b)) (n := (mt m).2.2.1) (by rw [lg_sl_len]; exact hw)
    rw [lv_args_map] at hl
    rw [lg_entry_eq]
    exact hP _ hG va_S.rf hl
