/-! ===== the small machine's world in the heap: cell k lies at base + k ===== -/
def cv (base b : Nat) (v : Value) : Value := match v with
  | .ref k => .ref (base + k)
  | .retAddr _ => .ref b
  | v => v
def arrC (base : Nat) (S : Sto) (k c : Nat) : (Nat → Int32) ⊕ (Nat → Int64) ⊕ (Nat → UInt32) ⊕ (Nat → UInt64) ⊕ (Nat → Option Nat) :=
  if c = 14 then .inr (.inl (S.2.2.1 k)) else if c = 16 then .inr (.inr (.inr (.inr (fun i => (S.2.2.2 k i).map (base + ·))))) else .inl (S.2.1 k)
def cellOK (D : va_G) (cy : Nat → ClassId) (base b : Nat) (S : Sto) (k c n : Nat) (H : Heap) : Prop :=
  if c < 12 then n = NN c ∧ t_OB (base + k) (D.1 c) (NN c) (D.2 c) H (fun j => cv base b (fvG S (tyK c j) k j)) else H[base + k]? = some (vp_cell (cy c) (n, arrC base S k c))
def gW (D : va_G) (cy : Nat → ClassId) (base b : Nat) (S : Sto) (H : Heap) : Prop := H.size = base + S.1.length ∧ ∀ k c n, S.1[k]? = some (c, n) → cellOK D cy base b S k c n H
def tysOf (cy : Nat → ClassId) : List (ClassId × FieldType) := [(cy 12, .byte), (cy 13, .int), (cy 14, .long), (cy 15, .boolean), (cy 16, .object (RN 2))]
theorem cellOK.kept {D : va_G} {cy : Nat → ClassId} {base b : Nat} {S S' : Sto} {k c n : Nat} {H H' : Heap} (h : cellOK D cy base b S k c n H) (h1 : S'.2.1 k = S.2.1 k) (h2 : S'.2.2.1 k = S.2.2.1 k) (h3 : S'.2.2.2 k = S.2.2.2 k) (hq : H'[base + k]? = H[base + k]?) : cellOK D cy base b S' k c n H' := by
  unfold cellOK at h ⊢
  split at h
  · next hc =>
    rw [if_pos hc]
    refine ⟨h.1, (h.2.kept hq).to (fun j _ => ?_)⟩
    simp only [fvG, h1, h2, h3]
  · next hc =>
    rw [if_neg hc, hq, h]
    simp only [arrC, h1, h2, h3]
theorem gW.upd {D : va_G} {cy : Nat → ClassId} {base b : Nat} {S S' : Sto} {k : Nat} {H H' : Heap} (hG : gW D cy base b S H) (h1 : S'.1 = S.1) (ho : ∀ k', k' ≠ k → S'.2.1 k' = S.2.1 k' ∧ S'.2.2.1 k' = S.2.2.1 k' ∧ S'.2.2.2 k' = S.2.2.2 k') (z : H'.size = H.size) (oq : ∀ q : Nat, q ≠ base + k → H'[q]? = H[q]?)
    (hc : ∀ c n, S.1[k]? = some (c, n) → cellOK D cy base b S' k c n H') : gW D cy base b S' H' := by
  refine ⟨by rw [z, h1]; exact hG.1, fun k' c n hk => ?_⟩
  rw [h1] at hk
  by_cases e : k' = k
  · subst e
    exact hc c n hk
  · obtain ⟨o1, o2, o3⟩ := ho k' e
    exact (hG.2 k' c n hk).kept o1 o2 o3 (oq _ (by omega))
theorem gW.new {D : va_G} {cy : Nat → ClassId} {base b : Nat} {S : Sto} {c n : Nat} {H H' : Heap} (hG : gW D cy base b S H) (z : H'.size = H.size + 1) (oq : ∀ q : Nat, q < H.size → H'[q]? = H[q]?) (hc : cellOK D cy base b (newC S c n) S.1.length c n H') : gW D cy base b (newC S c n) H' := by
  refine ⟨by rw [z, hG.1]; simp [newC]; omega, fun k' c' n' hk => ?_⟩
  have hk : (S.1 ++ [(c, n)])[k']? = some (c', n') := hk
  by_cases e : k' < S.1.length
  · rw [List.getElem?_append_left e] at hk
    have hne : k' ≠ S.1.length := Nat.ne_of_lt e
    exact (hG.2 k' c' n' hk).kept (by simp [newC, va_up, hne]) (by simp [newC, va_up, hne]) (by simp [newC, va_up, hne]) (oq _ (by rw [hG.1]; omega))
  · rw [List.getElem?_append_right (by omega)] at hk
    have hz : k' - S.1.length < 1 := (List.getElem?_eq_some_iff.mp hk).1
    rw [show k' - S.1.length = 0 by omega] at hk
    cases hk
    rw [show k' = S.1.length by omega]
    exact hc
theorem inGT {c : Nat} (hc : c < 12) : ∀ w ∈ u_ws (RN c) (TN c) (NN c), w ∈ GT := by
  intro w hw
  refine GT_in (inN c hc w hw) ?_
  obtain ⟨k, -, rfl⟩ := List.mem_map.mp hw
  unfold u_lay
  split <;> rfl
theorem cat_cv (base b : Nat) (v : Value) : (cv base b v).category = (match v with | .retAddr _ => 1 | v => v.category) := by cases v <;> rfl
theorem cat_cv' (base b : Nat) (v : Value) : (cv base b v).category = v.category := by cases v <;> rfl
def cvp (base b : Nat) (q : Nat × Value) : Nat × Value := (q.1, cv base b q.2)
theorem lget_mem : ∀ {lv : List (Nat × Value)} {i : Nat} {v : Value}, lget lv i = some v → (i, v) ∈ lv
  | [], _, _, h => by cases h
  | (j, w) :: t, i, v, h => by
    unfold lget at h
    split at h
    · next e =>
      cases h
      rw [Nat.eq_of_beq_eq_true e]
      exact List.mem_cons_self
    · exact List.mem_cons_of_mem _ (lget_mem h)
theorem lget_at {base b nL : Nat} {ls : Array Slot} {lv : List (Nat × Value)} (hl : lv_has ls nL (lv.map (cvp base b))) {i : Nat} {v : Value} (h : lget lv i = some v) : ls[i]? = some (.val (cv base b v)) := hl.2.2 _ (List.mem_map.mpr ⟨_, lget_mem h, rfl⟩)
theorem lput1_map (base b : Nat) (lv : List (Nat × Value)) (i : Nat) (v : Value) : (i, cv base b v) :: (lv.map (cvp base b)).filter (fun q => !(q.1 == i) && !(q.1 + 1 == i && q.2.category == 2)) = (lput1 lv i v).map (cvp base b) := by
  unfold lput1
  rw [List.map_cons, List.filter_map]
  congr 2
  refine List.filter_congr fun q _ => ?_
  simp [cvp, cat_cv']
theorem lput2_map (base b : Nat) (lv : List (Nat × Value)) (i : Nat) (v : Value) : (i, cv base b v) :: (lv.map (cvp base b)).filter (fun q => !(q.1 == i) && (!(q.1 == i + 1) && !(q.1 + 1 == i && q.2.category == 2))) = (lput2 lv i v).map (cvp base b) := by
  unfold lput2
  rw [List.map_cons, List.filter_map]
  congr 2
  refine List.filter_congr fun q _ => ?_
  simp [cvp, cat_cv']
theorem cats_cv (base b : Nat) (st : List Value) : ((st.map (cv base b)).map fun v => v.category).sum = cats st := by
  unfold cats
  rw [List.map_map]
  congr 1
  refine List.map_congr_left fun v _ => ?_
  exact cat_cv' base b v
theorem va_P_one {D : va_G} {cl : List vw_C} {a : Nat} {x : va_E} {H : Heap} (h : va_at D cl (a, x) H) : va_P D cl [(a, x)] H := by
  intro k q hk
  have hz : k < 1 := (List.getElem?_eq_some_iff.mp hk).1
  rw [show k = 0 by omega] at hk
  cases hk
  exact h
theorem tyK1 {c f : Nat} (hc : c < 12) (hf : f < NN c) (h : tyK c f = 1) : tyN c f = .long := by
  have h1 := tyK_ok c hc f hf
  rw [h] at h1
  split at h1 <;> first | assumption | (exact absurd h1 (by decide))
theorem tyK2 {c f : Nat} (hc : c < 12) (hf : f < NN c) (h : tyK c f = 2) (a : Nat) : narrow (tyN c f) (.ref a) = .ref a ∧ fits (tyN c f) (.ref a) = true := by
  have h1 := tyK_ok c hc f hf
  rw [h] at h1
  split at h1
  · exact absurd h1 (by decide)
  · next e => rw [e]; exact ⟨rfl, rfl⟩
  · next e => rw [e]; exact ⟨rfl, rfl⟩
  · exact absurd h1 (by decide)
  · exact absurd h1 (by decide)
  · exact absurd h1 (by decide)
theorem tyK_def {c f : Nat} (hc : c < 12) (hf : f < NN c) (base b : Nat) (S : Sto) (k : Nat) (h1 : S.2.1 k f = 0) (h2 : S.2.2.1 k f = 0) (h3 : S.2.2.2 k f = none) : defaultValue (tyN c f) = cv base b (fvG S (tyK c f) k f) := by
  have h := tyK_ok c hc f hf
  rw [h]
  cases e : tyN c f <;> simp [fvG, h1, h2, h3, defaultValue, cv, va_rf]
  · rw [e] at h
    exact absurd h (by have : ∀ c, c < 12 → ∀ k, k < NN c → tyN c k ≠ .double := by decide +kernel
                       exact fun _ => this c hc f hf e)
  · rw [e] at h
    exact absurd h (by have : ∀ c, c < 12 → ∀ k, k < NN c → tyN c k ≠ .float := by decide +kernel
                       exact fun _ => this c hc f hf e)
section GROWS
variable {p : Program} {l : Launch} {e : Env} {R : Room} {s : State} {m : MethodId} {args : Array Value} {below : List Frame} {meth : Method} {c : Code} {H : Heap} {locs : List Loc} {cells slots : Nat} {Q : State → Prop}
variable {cc : ByteArray} {pc : Nat} {ls : Array Slot} {rest : List Value} {D : va_G} {cy : Nat → ClassId} {base b : Nat} {S : Sto} {own : Nat}
theorem g_get (hx : p.tables.exec = Jvm.exec) (hb : c.code = cc) (hts : ∀ w ∈ GT, w.before args s = true) (hown : s.vm.findClass (RN own) = some m.cls) (hK : va_K D clsL (tysOf cy) s) (hG : gW D cy base b S H) {k a f idx : Nat} (hk : okO S k a) (ha : (own, idx, a, f) ∈ FLT) (hdg : decode cc pc = .ok (.getfield idx, 3))
    (kk : W p l e R s m args below meth c H locs cells slots Q (F0 m (pc + 3) ls (cv base b (fvG S (tyK a f) k f) :: rest))) : W p l e R s m args below meth c H locs cells slots Q (F0 m pc ls (.ref (base + k) :: rest)) := by
  obtain ⟨ha1, hf⟩ := FLT_in _ ha
  have h := hG.2 k _ _ hk
  unfold cellOK at h
  rw [if_pos ha1] at h
  obtain ⟨-, cell, q1, q2, q3, q4⟩ := h
  obtain ⟨hS, hfc, kC, hkC, hkind⟩ := hK.1 a _ (clsL_at ha1)
  obtain ⟨cf, kf, fi, fd, hi, hsl⟩ := hS f hf
  refine W.getf hx hb hown (hts _ (GT_in (FLT_ok _ ha) rfl)) hi (u_facts hfc hkC (u_lays hts (inGT ha1) hf) hi).1 q1 (by rw [q3]; exact fun h => by cases h) (v := cv base b (fvG S (tyK a f) k f)) ?_ rfl rfl hdg kk
  rw [hsl]
  exact q4 f hf
theorem g_put (hx : p.tables.exec = Jvm.exec) (hb : c.code = cc) (hts : ∀ w ∈ GT, w.before args s = true) (hown : s.vm.findClass (RN own) = some m.cls) (hK : va_K D clsL (tysOf cy) s) (hG : gW D cy base b S H) (hS0 : va_S (fun q => base ≤ q) s.heap H locs) {k a f idx : Nat} (hk : okO S k a) (ha : (own, idx, a, f) ∈ FLT)
    (hfin : (TN a f).2.2.2 = false ∨ (meth.name = "<init>" ∧ own = a)) {v : Value} (hn : narrow (tyN a f) (cv base b v) = cv base b v) (hfit : fits (tyN a f) (cv base b v) = true) {S' : Sto} (h1 : S'.1 = S.1) (ho : ∀ k', k' ≠ k → S'.2.1 k' = S.2.1 k' ∧ S'.2.2.1 k' = S.2.2.1 k' ∧ S'.2.2.2 k' = S.2.2.2 k')
    (hv : ∀ j, j < NN a → fvG S' (tyK a j) k j = if j = f then v else fvG S (tyK a j) k j) (hdg : decode cc pc = .ok (.putfield idx, 3))
    (kk : ∀ (H1 : Heap) (locs1 : List Loc), gW D cy base b S' H1 → va_S (fun q => base ≤ q) s.heap H1 locs1 → W p l e R s m args below meth c H1 locs1 cells slots Q (F0 m (pc + 3) ls rest)) : W p l e R s m args below meth c H locs cells slots Q (F0 m pc ls (cv base b v :: .ref (base + k) :: rest)) := by
  obtain ⟨ha1, hf⟩ := FLT_in _ ha
  have h := hG.2 k _ _ hk
  unfold cellOK at h
  rw [if_pos ha1] at h
  obtain ⟨-, cell, q1, q2, q3, q4⟩ := h
  have hap := va_apart (D := D) (cl := clsL) (own := RN own) hts (inGT ha1) (tyN a) (tyN_ok a ha1) (nmN a ha1) hK (clsL_at ha1)
  obtain ⟨hS, hfc, kC, hkC, hkind⟩ := hK.1 a _ (clsL_at ha1)
  obtain ⟨cf, kf, fi, fd, hi, hsl⟩ := hS f hf
  have hlay := hts _ (inGT ha1 _ (u_in_lay hf))
  have hst := (u_facts hfc hkC (u_lays hts (inGT ha1) hf) hi).1
  have fin : ∀ (H' : Heap), H'[base + k]? = some (cell.setSlot fd.slot (cv base b v)) → H'.size = H.size → (∀ q, q ≠ base + k → H'[q]? = H[q]?) → W p l e R s m args below meth c H' (locs ++ [⟨base + k, fd.slot⟩]) cells slots Q (F0 m (pc + 3) ls rest) := by
    intro H' e1 e2 e3
    refine kk H' _ (hG.upd h1 ho e2 e3 (fun c' n' hc' => ?_)) (hS0.put e2 e3 (Nat.le_add_right _ _))
    cases hk.symm.trans hc'
    unfold cellOK
    rw [if_pos ha1]
    rw [hsl] at e1
    refine ⟨rfl, t_OB.to ⟨_, e1, q2, q3, t_set q4 hap hf (cv base b v)⟩ (fun j hj => ?_)⟩
    rw [hv j hj]
    by_cases ej : j = f
    · simp [updV, ej]
    · simp [updV, ej]
  by_cases hfi : (TN a f).2.2.2 = true
  · rcases hfin with q | ⟨hin, hoa⟩
    · rw [hfi] at q; cases q
    · subst hoa
      unfold u_lay at hlay
      rw [if_pos hfi] at hlay
      have hcf : m.cls = cf := by
        obtain ⟨_, _, c', _, _, _, -, -, hf', -, -, -, hown2, -⟩ := Cond.laysFinal_spec hlay
        have e1 : c' = cf := by have := hi.symm.trans hf'; simp at this; exact this.1.symm
        have hd : (TN own f).1 = RN own := (by decide +kernel : ∀ c, c < 12 → ∀ k, k < NN c → (TN c k).1 = RN c) own ha1 f hf
        rw [hd] at hown2
        rw [← e1]; exact Option.some.inj (hown.symm.trans hown2)
      have h6 := u_fits hfc hkC hkind (Or.inr hlay) hi (tyN_ok own ha1 f hf) hn hfit
      exact W.putFinK hx hb hown (hts _ (GT_in (FLT_ok _ ha) rfl)) hi hst hcf hin (by rw [q2]; exact h6) q1 q3 (by rw [hsl]; exact k2_hasslot (q4 f hf)) rfl rfl hdg fin
  · unfold u_lay at hlay
    rw [if_neg hfi] at hlay
    have h6 := u_store hfc hkC hkind hlay hi (tyN_ok a ha1 f hf) hn hfit
    exact W.putK hx hb (f := fd) ⟨hown, hts _ (GT_in (FLT_ok _ ha) rfl), ⟨_, _, _, hi⟩, hst⟩ (by rw [q2]; exact h6) q1 q3 (by rw [hsl]; exact k2_hasslot (q4 f hf)) rfl rfl hdg fin
end GROWS
