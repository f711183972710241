/-! ===== arrays, new cells and calls over the small machine's world ===== -/
theorem up2_ne {α : Type} (f : Nat → Nat → α) (k i : Nat) (v : α) {k' : Nat} (h : k' ≠ k) : up2 f k i v k' = f k' := by simp [up2, va_up, h]
theorem up2_row {α : Type} (f : Nat → Nat → α) (k i : Nat) (v : α) : up2 f k i v k = va_up (f k) i v := by simp [up2, va_up]
theorem setI_ho (S : Sto) (k i : Nat) (x : Int32) : ∀ k', k' ≠ k → (setI S k i x).2.1 k' = S.2.1 k' ∧ (setI S k i x).2.2.1 k' = S.2.2.1 k' ∧ (setI S k i x).2.2.2 k' = S.2.2.2 k' := fun _ h => ⟨up2_ne _ _ _ _ h, rfl, rfl⟩
theorem setL_ho (S : Sto) (k i : Nat) (x : Int64) : ∀ k', k' ≠ k → (setL S k i x).2.1 k' = S.2.1 k' ∧ (setL S k i x).2.2.1 k' = S.2.2.1 k' ∧ (setL S k i x).2.2.2 k' = S.2.2.2 k' := fun _ h => ⟨rfl, up2_ne _ _ _ _ h, rfl⟩
theorem setR_ho (S : Sto) (k i : Nat) (x : Option Nat) : ∀ k', k' ≠ k → (setR S k i x).2.1 k' = S.2.1 k' ∧ (setR S k i x).2.2.1 k' = S.2.2.1 k' ∧ (setR S k i x).2.2.2 k' = S.2.2.2 k' := fun _ h => ⟨rfl, rfl, up2_ne _ _ _ _ h⟩
section GARR
variable {p : Program} {l : Launch} {e : Env} {R : Room} {s : State} {m : MethodId} {args : Array Value} {below : List Frame} {meth : Method} {c : Code} {H : Heap} {locs : List Loc} {cells slots : Nat} {Q : State → Prop}
variable {cc : ByteArray} {pc : Nat} {ls : Array Slot} {rest : List Value} {D : va_G} {cy : Nat → ClassId} {base b : Nat} {S : Sto} {own : Nat}
theorem g_at {k c n : Nat} (hG : gW D cy base b S H) (hk : S.1[k]? = some (c, n)) (hc : ¬ c < 12) : H[base + k]? = some (vp_cell (cy c) (n, arrC base S k c)) := by
  have h := hG.2 k _ _ hk
  unfold cellOK at h
  rwa [if_neg hc] at h
theorem g_iald (hx : p.tables.exec = Jvm.exec) (hb : c.code = cc) (hK : va_K D clsL (tysOf cy) s) (hG : gW D cy base b S H) {k : Nat} {i : Int32} (hk : okA S k 13 i) (hdg : decode cc pc = .ok (.iaload, 1))
    (kk : W p l e R s m args below meth c H locs cells slots Q (F0 m (pc + 1) ls (.int (S.2.1 k i.toNatClampNeg) :: rest))) : W p l e R s m args below meth c H locs cells slots Q (F0 m pc ls (.int i :: .ref (base + k) :: rest)) := by
  obtain ⟨n, h1, h2⟩ := hk
  exact va_iald hx hb hK (va_P_one (x := .inl (cy 13, n, .inl (S.2.1 k))) (g_at hG h1 (by decide))) 0 1 rfl rfl h2 hdg kk
theorem g_bald (hx : p.tables.exec = Jvm.exec) (hb : c.code = cc) (hK : va_K D clsL (tysOf cy) s) (hG : gW D cy base b S H) {k a : Nat} {i : Int32} (ha : a = 12 ∨ a = 15) (hk : okA S k a i) (hdg : decode cc pc = .ok (.baload, 1))
    (kk : W p l e R s m args below meth c H locs cells slots Q (F0 m (pc + 1) ls (.int (S.2.1 k i.toNatClampNeg) :: rest))) : W p l e R s m args below meth c H locs cells slots Q (F0 m pc ls (.int i :: .ref (base + k) :: rest)) := by
  obtain ⟨n, h1, h2⟩ := hk
  rcases ha with rfl | rfl
  · exact va_bald hx hb hK (va_P_one (x := .inl (cy 12, n, .inl (S.2.1 k))) (g_at hG h1 (by decide))) 0 0 rfl rfl h2 hdg kk
  · exact va_zald hx hb hK (va_P_one (x := .inl (cy 15, n, .inl (S.2.1 k))) (g_at hG h1 (by decide))) 0 3 rfl rfl h2 hdg kk
theorem g_lald (hx : p.tables.exec = Jvm.exec) (hb : c.code = cc) (hK : va_K D clsL (tysOf cy) s) (hG : gW D cy base b S H) {k : Nat} {i : Int32} (hk : okA S k 14 i) (hdg : decode cc pc = .ok (.laload, 1))
    (kk : W p l e R s m args below meth c H locs cells slots Q (F0 m (pc + 1) ls (.long (S.2.2.1 k i.toNatClampNeg) :: rest))) : W p l e R s m args below meth c H locs cells slots Q (F0 m pc ls (.int i :: .ref (base + k) :: rest)) := by
  obtain ⟨n, h1, h2⟩ := hk
  exact va_lald hx hb hK (va_P_one (x := .inl (cy 14, n, .inr (.inl (S.2.2.1 k)))) (g_at hG h1 (by decide))) 0 2 rfl rfl h2 hdg kk
theorem g_aald (hx : p.tables.exec = Jvm.exec) (hb : c.code = cc) (hK : va_K D clsL (tysOf cy) s) (hG : gW D cy base b S H) {k : Nat} {i : Int32} (hk : okA S k 16 i) (hdg : decode cc pc = .ok (.aaload, 1))
    (kk : W p l e R s m args below meth c H locs cells slots Q (F0 m (pc + 1) ls (cv base b (va_rf (S.2.2.2 k i.toNatClampNeg)) :: rest))) : W p l e R s m args below meth c H locs cells slots Q (F0 m pc ls (.int i :: .ref (base + k) :: rest)) := by
  obtain ⟨n, h1, h2⟩ := hk
  refine va_aldq hx hb hK (va_P_one (x := .inl (cy 16, n, .inr (.inr (.inr (.inr (fun i => (S.2.2.2 k i).map (base + ·))))))) (g_at hG h1 (by decide))) 0 4 rfl rfl h2 hdg ?_
  have e : va_rf ((S.2.2.2 k i.toNatClampNeg).map (base + ·)) = cv base b (va_rf (S.2.2.2 k i.toNatClampNeg)) := by
    cases S.2.2.2 k i.toNatClampNeg <;> rfl
  rw [← e] at kk
  exact kk
theorem g_alen (hx : p.tables.exec = Jvm.exec) (hb : c.code = cc) (hK : va_K D clsL (tysOf cy) s) (hG : gW D cy base b S H) {k n : Nat} (hk : S.1[k]? = some (13, n)) (hdg : decode cc pc = .ok (.arraylength, 1))
    (kk : W p l e R s m args below meth c H locs cells slots Q (F0 m (pc + 1) ls (.int (Int32.ofNat n) :: rest))) : W p l e R s m args below meth c H locs cells slots Q (F0 m pc ls (.ref (base + k) :: rest)) :=
  va_alen hx hb hK (va_P_one (x := .inl (cy 13, n, .inl (S.2.1 k))) (g_at hG hk (by decide))) 0 1 rfl rfl rfl hdg kk
theorem g_iast (hx : p.tables.exec = Jvm.exec) (hb : c.code = cc) (hK : va_K D clsL (tysOf cy) s) (hG : gW D cy base b S H) (hS0 : va_S (fun q => base ≤ q) s.heap H locs) {k : Nat} {i x : Int32} (hk : okA S k 13 i) (hdg : decode cc pc = .ok (.iastore, 1))
    (kk : ∀ (H1 : Heap) (locs1 : List Loc), gW D cy base b (setI S k i.toNatClampNeg x) H1 → va_S (fun q => base ≤ q) s.heap H1 locs1 → W p l e R s m args below meth c H1 locs1 cells slots Q (F0 m (pc + 1) ls rest)) : W p l e R s m args below meth c H locs cells slots Q (F0 m pc ls (.int x :: .int i :: .ref (base + k) :: rest)) := by
  obtain ⟨n, h1, h2⟩ := hk
  have h : H[base + k]? = some (vp_cell (cy 13) (n, .inl (S.2.1 k))) := g_at hG h1 (by decide)
  refine W.iast hx hb h ((hK.2 1 _ rfl).1 n (fun j => .int (S.2.1 k j))) (fun q => by cases q) (by show ¬ (i < 0 ∨ (arrV _ _ _).slots.size ≤ _); rw [arrV_size]; exact h2) rfl rfl hdg fun H1 e1 z oq => ?_
  refine kk H1 _ (hG.upd rfl (setI_ho S k _ x) z oq (fun c' n' hc' => ?_)) (hS0.put z oq (Nat.le_add_right _ _))
  cases h1.symm.trans hc'
  show H1[base + k]? = some (vp_cell (cy 13) (n, .inl (up2 S.2.1 k i.toNatClampNeg x k)))
  rw [e1, vp_cell_i, vp_cell_i, arrV_store, up2_row]
  congr 2
  funext q
  by_cases hq : q = i.toNatClampNeg
  · subst hq
    simp [updV, va_up]
  · simp [updV, va_up, hq]
theorem g_bast (hx : p.tables.exec = Jvm.exec) (hb : c.code = cc) (hK : va_K D clsL (tysOf cy) s) (hG : gW D cy base b S H) (hS0 : va_S (fun q => base ≤ q) s.heap H locs) {k : Nat} {i x : Int32} (hk : okA S k 12 i) (hdg : decode cc pc = .ok (.bastore, 1))
    (kk : ∀ (H1 : Heap) (locs1 : List Loc), gW D cy base b (setI S k i.toNatClampNeg (vp_nar .byte x)) H1 → va_S (fun q => base ≤ q) s.heap H1 locs1 → W p l e R s m args below meth c H1 locs1 cells slots Q (F0 m (pc + 1) ls rest)) : W p l e R s m args below meth c H locs cells slots Q (F0 m pc ls (.int x :: .int i :: .ref (base + k) :: rest)) := by
  obtain ⟨n, h1, h2⟩ := hk
  have h : H[base + k]? = some (vp_cell (cy 12) (n, .inl (S.2.1 k))) := g_at hG h1 (by decide)
  refine W.bast hx hb h ((hK.2 0 _ rfl).1 n (fun j => .int (S.2.1 k j))) (fun q => by cases q) (by show ¬ (i < 0 ∨ (arrV _ _ _).slots.size ≤ _); rw [arrV_size]; exact h2) rfl rfl hdg fun H1 e1 z oq => ?_
  refine kk H1 _ (hG.upd rfl (setI_ho S k _ _) z oq (fun c' n' hc' => ?_)) (hS0.put z oq (Nat.le_add_right _ _))
  cases h1.symm.trans hc'
  show H1[base + k]? = some (vp_cell (cy 12) (n, .inl (up2 S.2.1 k i.toNatClampNeg (vp_nar .byte x) k)))
  rw [e1, vp_cell_i, vp_cell_i, arrV_store, up2_row]
  congr 2
  funext q
  by_cases hq : q = i.toNatClampNeg
  · subst hq
    simp [updV, va_up, vp_nar]
    try rfl
  · simp [updV, va_up, hq]
theorem g_zast (hx : p.tables.exec = Jvm.exec) (hb : c.code = cc) (hK : va_K D clsL (tysOf cy) s) (hG : gW D cy base b S H) (hS0 : va_S (fun q => base ≤ q) s.heap H locs) {k : Nat} {i x : Int32} (hk : okA S k 15 i) (hdg : decode cc pc = .ok (.bastore, 1))
    (kk : ∀ (H1 : Heap) (locs1 : List Loc), gW D cy base b (setI S k i.toNatClampNeg (vp_nar .boolean x)) H1 → va_S (fun q => base ≤ q) s.heap H1 locs1 → W p l e R s m args below meth c H1 locs1 cells slots Q (F0 m (pc + 1) ls rest)) : W p l e R s m args below meth c H locs cells slots Q (F0 m pc ls (.int x :: .int i :: .ref (base + k) :: rest)) := by
  obtain ⟨n, h1, h2⟩ := hk
  have h : H[base + k]? = some (vp_cell (cy 15) (n, .inl (S.2.1 k))) := g_at hG h1 (by decide)
  refine W.zast hx hb h ((hK.2 3 _ rfl).1 n (fun j => .int (S.2.1 k j))) (fun q => by cases q) (by show ¬ (i < 0 ∨ (arrV _ _ _).slots.size ≤ _); rw [arrV_size]; exact h2) rfl rfl hdg fun H1 e1 z oq => ?_
  refine kk H1 _ (hG.upd rfl (setI_ho S k _ _) z oq (fun c' n' hc' => ?_)) (hS0.put z oq (Nat.le_add_right _ _))
  cases h1.symm.trans hc'
  show H1[base + k]? = some (vp_cell (cy 15) (n, .inl (up2 S.2.1 k i.toNatClampNeg (vp_nar .boolean x) k)))
  rw [e1, vp_cell_i, vp_cell_i, arrV_store, up2_row]
  congr 2
  funext q
  by_cases hq : q = i.toNatClampNeg
  · subst hq
    simp [updV, va_up, vp_nar]
    try rfl
  · simp [updV, va_up, hq]
theorem g_last (hx : p.tables.exec = Jvm.exec) (hb : c.code = cc) (hK : va_K D clsL (tysOf cy) s) (hG : gW D cy base b S H) (hS0 : va_S (fun q => base ≤ q) s.heap H locs) {k : Nat} {i : Int32} {x : Int64} (hk : okA S k 14 i) (hdg : decode cc pc = .ok (.lastore, 1))
    (kk : ∀ (H1 : Heap) (locs1 : List Loc), gW D cy base b (setL S k i.toNatClampNeg x) H1 → va_S (fun q => base ≤ q) s.heap H1 locs1 → W p l e R s m args below meth c H1 locs1 cells slots Q (F0 m (pc + 1) ls rest)) : W p l e R s m args below meth c H locs cells slots Q (F0 m pc ls (.long x :: .int i :: .ref (base + k) :: rest)) := by
  obtain ⟨n, h1, h2⟩ := hk
  have h : H[base + k]? = some (vp_cell (cy 14) (n, .inr (.inl (S.2.2.1 k)))) := g_at hG h1 (by decide)
  refine W.last hx hb h ((hK.2 2 _ rfl).1 n (fun j => .long (S.2.2.1 k j))) (fun q => by cases q) (by show ¬ (i < 0 ∨ (arrV _ _ _).slots.size ≤ _); rw [arrV_size]; exact h2) rfl rfl hdg fun H1 e1 z oq => ?_
  refine kk H1 _ (hG.upd rfl (setL_ho S k _ x) z oq (fun c' n' hc' => ?_)) (hS0.put z oq (Nat.le_add_right _ _))
  cases h1.symm.trans hc'
  show H1[base + k]? = some (vp_cell (cy 14) (n, .inr (.inl (up2 S.2.2.1 k i.toNatClampNeg x k))))
  rw [e1, vp_cell_l, vp_cell_l, arrV_store, up2_row]
  congr 2
  funext q
  by_cases hq : q = i.toNatClampNeg
  · subst hq
    simp [updV, va_up]
  · simp [updV, va_up, hq]
theorem g_aast (hx : p.tables.exec = Jvm.exec) (hb : c.code = cc) (hK : va_K D clsL (tysOf cy) s) (hG : gW D cy base b S H) (hS0 : va_S (fun q => base ≤ q) s.heap H locs) {k x : Nat} {i : Int32} (hk : okA S k 16 i) (hv : okO S x 2) (hdg : decode cc pc = .ok (.aastore, 1))
    (kk : ∀ (H1 : Heap) (locs1 : List Loc), gW D cy base b (setR S k i.toNatClampNeg (some x)) H1 → va_S (fun q => base ≤ q) s.heap H1 locs1 → W p l e R s m args below meth c H1 locs1 cells slots Q (F0 m (pc + 1) ls rest)) : W p l e R s m args below meth c H locs cells slots Q (F0 m pc ls (.ref (base + x) :: .int i :: .ref (base + k) :: rest)) := by
  obtain ⟨n, h1, h2⟩ := hk
  have h : H[base + k]? = some (vp_cell (cy 16) (n, .inr (.inr (.inr (.inr (fun i => (S.2.2.2 k i).map (base + ·))))))) := g_at hG h1 (by decide)
  have hlt : i.toNatClampNeg < n := Nat.not_le.mp fun q => h2 (Or.inr q)
  have h0 : ¬ i < 0 := fun q => h2 (Or.inl q)
  have hx2 := hG.2 x _ _ hv
  unfold cellOK at hx2
  rw [if_pos (by decide)] at hx2
  obtain ⟨-, cellV, g1, g2, g3, -⟩ := hx2
  have hcls := (hK.1 2 _ (clsL_at (by decide))).2
  obtain ⟨kA, comp, k1, k2, k3, -⟩ := (hK.2 4 _ rfl).2
  have hcomp : comp = D.1 2 := Option.some.inj (k3.symm.trans hcls.1)
  subst hcomp
  obtain ⟨kC, hkC, -⟩ := hcls.2
  refine W.aast hx hb h (fun q h => by cases h) (fun h => by cases h) k1 k2 rfl hkC ⟨h0, by show _ < (arrV _ _ _).slots.size; rw [arrV_size]; exact hlt⟩ g1 (fun q h => by rw [g3] at h; cases h) (by rw [g2]; exact hkC) (by rw [g2]; exact va_assign hcls) rfl rfl hdg fun H1 e1 z oq => ?_
  refine kk H1 _ (hG.upd rfl (setR_ho S k _ _) z oq (fun c' n' hc' => ?_)) (hS0.put z oq (Nat.le_add_right _ _))
  cases h1.symm.trans hc'
  show H1[base + k]? = some (vp_cell (cy 16) (n, .inr (.inr (.inr (.inr (fun j => (up2 S.2.2.2 k i.toNatClampNeg (some x) k j).map (base + ·)))))))
  rw [e1, vp_cell_q, vp_cell_q, arrV_store, up2_row]
  congr 2
  funext q
  by_cases hq : q = i.toNatClampNeg
  · subst hq
    simp [updV, va_up, va_rf]
  · simp [updV, va_up, hq]
theorem g_new (hx : p.tables.exec = Jvm.exec) (hb : c.code = cc) (hts : ∀ w ∈ GT, w.before args s = true) (hown : s.vm.findClass (RN own) = some m.cls) (hK : va_K D clsL (tysOf cy) s) (hG : gW D cy base b S H) (hS0 : va_S (fun q => base ≤ q) s.heap H locs) {a idx : Nat} (hc : (own, idx, a) ∈ CLT)
    (hcells : cells + 1 ≤ R.cells) (hslots : slots + NN a ≤ R.slots) (hdg : decode cc pc = .ok (.new idx, 3))
    (kk : ∀ (H1 : Heap), gW D cy base b (newC S a (NN a)) H1 → va_S (fun q => base ≤ q) s.heap H1 locs → W p l e R s m args below meth c H1 locs (cells + 1) (slots + NN a) Q (F0 m (pc + 3) ls (.ref (base + S.1.length) :: rest))) : W p l e R s m args below meth c H locs cells slots Q (F0 m pc ls rest) := by
  obtain ⟨hl, ha⟩ := CLT_ok _ hc
  have ha : a < 12 := ha
  have hKn := hK.1 a _ (clsL_at ha)
  refine W.newcK hx hb hown (hts _ (GT_in hl rfl)) (hts _ (GT_in (INS_ok a ha) rfl)) (hts _ (GT_in (RN_init a (by omega)) rfl)) rfl hdg hcells hslots hKn.2.1 hG.1 fun H1 kC hkC e1 z1 o1 => ?_
  have o1 : ∀ q : Nat, q < H.size → H1[q]? = H[q]? := fun q hq => o1 q (by rw [← hG.1]; exact hq)
  have z1 : H1.size = H.size + 1 := by rw [z1, hG.1]
  refine kk H1 (hG.new z1 o1 ?_) ⟨Nat.le_trans hS0.1 (by omega), fun q h1 h2 => (o1 q (Nat.lt_of_lt_of_le h1 hS0.1)).trans (hS0.2.1 q h1 h2), hS0.2.2⟩
  unfold cellOK
  rw [if_pos ha]
  refine ⟨rfl, (u_born (tyN a) hts (inGT ha) hKn hkC e1 (tyN_ok a ha)).to (fun j hj => ?_)⟩
  exact tyK_def ha hj base b (newC S a (NN a)) _ (by simp [newC, va_up]) (by simp [newC, va_up]) (by simp [newC, va_up])
theorem g_newa (hx : p.tables.exec = Jvm.exec) (hb : c.code = cc) (hts : ∀ w ∈ GT, w.before args s = true) (hK : va_K D clsL (tysOf cy) s) (hG : gW D cy base b S H) (hS0 : va_S (fun q => base ≤ q) s.heap H locs) {a : Nat} {t : ArrayType}
    (ha : (match t with | .byte => decide (a = 12) | .int => decide (a = 13) | .long => decide (a = 14) | .boolean => decide (a = 15) | _ => false) = true) {n : Int32} (hn : ¬ n < 0) (hbig : n.toNatClampNeg ≤ 60000000) (hcells : cells + 1 ≤ R.cells) (hslots : slots + n.toNatClampNeg ≤ R.slots) (hdg : decode cc pc = .ok (.newarray t, 2))
    (kk : ∀ (H1 : Heap), gW D cy base b (newC S a n.toNatClampNeg) H1 → va_S (fun q => base ≤ q) s.heap H1 locs → W p l e R s m args below meth c H1 locs (cells + 1) (slots + n.toNatClampNeg) Q (F0 m (pc + 2) ls (.ref (base + S.1.length) :: rest))) : W p l e R s m args below meth c H locs cells slots Q (F0 m pc ls (.int n :: rest)) := by
  have go : ∀ (hw : (Cond.arrayClass (newarray.typeOf t)).before args s = true) (h8 : componentBytes (newarray.typeOf t) ≤ 8) (hcy : ∀ cA, s.vm.findClass ("[" ++ (newarray.typeOf t).toString) = some cA → cA = cy a) (hnew : ∀ N : Nat, vp_cell (cy a) (N, arrC base (newC S a N) S.1.length a) = arrV (cy a) N (fun _ => defaultValue (newarray.typeOf t))) (h12 : ¬ a < 12),
      W p l e R s m args below meth c H locs cells slots Q (F0 m pc ls (.int n :: rest)) := by
    intro hw h8 hcy hnew h12
    refine va_newaK hx hb hw rfl hdg rfl hn rfl (Nat.le_trans (Nat.mul_le_mul hbig h8) (by decide)) hcells hslots hG.1 fun H1 cA e1 z1 o1 hAr hNm => ?_
    have o1 : ∀ q : Nat, q < H.size → H1[q]? = H[q]? := fun q hq => o1 q (by rw [← hG.1]; exact hq)
    have z1 : H1.size = H.size + 1 := by rw [z1, hG.1]
    refine kk H1 (hG.new z1 o1 ?_) ⟨Nat.le_trans hS0.1 (by omega), fun q h1 h2 => (o1 q (Nat.lt_of_lt_of_le h1 hS0.1)).trans (hS0.2.1 q h1 h2), hS0.2.2⟩
    unfold cellOK
    rw [if_neg h12, hnew, e1, hcy cA hNm]
  obtain ⟨w1, w2, w3, w4, w5⟩ := AR_ok
  cases t <;> simp only [decide_eq_true_eq, Bool.false_eq_true] at ha
  · subst ha
    exact go (hts _ (GT_in w4 rfl)) (by decide) (fun cA h => Option.some.inj (h.symm.trans (hK.2 3 _ rfl).2)) (fun N => by show vp_cell (cy 15) (N, .inl ((newC S 15 N).2.1 S.1.length)) = _; rw [vp_cell_i]; simp [newC, va_up, newarray.typeOf, defaultValue]) (by decide)
  · subst ha
    exact go (hts _ (GT_in w1 rfl)) (by decide) (fun cA h => Option.some.inj (h.symm.trans (hK.2 0 _ rfl).2)) (fun N => by show vp_cell (cy 12) (N, .inl ((newC S 12 N).2.1 S.1.length)) = _; rw [vp_cell_i]; simp [newC, va_up, newarray.typeOf, defaultValue]) (by decide)
  · subst ha
    exact go (hts _ (GT_in w2 rfl)) (by decide) (fun cA h => Option.some.inj (h.symm.trans (hK.2 1 _ rfl).2)) (fun N => by show vp_cell (cy 13) (N, .inl ((newC S 13 N).2.1 S.1.length)) = _; rw [vp_cell_i]; simp [newC, va_up, newarray.typeOf, defaultValue]) (by decide)
  · subst ha
    exact go (hts _ (GT_in w3 rfl)) (by decide) (fun cA h => Option.some.inj (h.symm.trans (hK.2 2 _ rfl).2)) (fun N => by show vp_cell (cy 14) (N, .inr (.inl ((newC S 14 N).2.2.1 S.1.length))) = _; rw [vp_cell_l]; simp [newC, va_up, newarray.typeOf, defaultValue]) (by decide)
theorem g_newq (hx : p.tables.exec = Jvm.exec) (hb : c.code = cc) (hts : ∀ w ∈ GT, w.before args s = true) (hown : s.vm.findClass (RN own) = some m.cls) (hAO : va_AO (RN 2) s) (hK : va_K D clsL (tysOf cy) s) (hG : gW D cy base b S H) (hS0 : va_S (fun q => base ≤ q) s.heap H locs) {idx : Nat} (hc : (own, idx, 2) ∈ CLT)
    {n : Int32} (hn : ¬ n < 0) (hbig : n.toNatClampNeg ≤ 60000000) (hcells : cells + 1 ≤ R.cells) (hslots : slots + n.toNatClampNeg ≤ R.slots) (hdg : decode cc pc = .ok (.anewarray idx, 3))
    (kk : ∀ (H1 : Heap), gW D cy base b (newC S 16 n.toNatClampNeg) H1 → va_S (fun q => base ≤ q) s.heap H1 locs → W p l e R s m args below meth c H1 locs (cells + 1) (slots + n.toNatClampNeg) Q (F0 m (pc + 3) ls (.ref (base + S.1.length) :: rest))) : W p l e R s m args below meth c H locs cells slots Q (F0 m pc ls (.int n :: rest)) := by
  obtain ⟨hl, ha⟩ := CLT_ok _ hc
  refine W.anew hx hb hown (hts _ (GT_in hl rfl)) (va_AO.use hAO) rfl hdg rfl hn (Nat.le_trans (Nat.mul_le_mul_right 4 hbig) (by decide)) hcells hslots fun cA kA comp f1 f2 f3 f4 => ?_
  generalize hH1 : H.push ({ cls := cA, slots := Array.replicate n.toNatClampNeg .null, vm := .none } : Cell) = H1
  have z1 : H1.size = H.size + 1 := by rw [← hH1, Array.size_push]
  have e1 : H1[H.size]? = some (arrV cA n.toNatClampNeg (fun _ => .null)) := by rw [← hH1, Array.getElem?_push_size, ← arrV_new]
  have o1 : ∀ q : Nat, q < H.size → H1[q]? = H[q]? := fun q hq => by rw [← hH1, Array.getElem?_push, if_neg (Nat.ne_of_lt hq)]
  have e2 : F0 m (pc + 3) ls (.ref (base + S.1.length) :: rest) = F0 m (pc + 3) ls (.ref H.size :: rest) := by rw [hG.1]
  rw [e2] at kk
  refine kk H1 (hG.new z1 o1 ?_) ⟨Nat.le_trans hS0.1 (by omega), fun q h1 h2 => (o1 q (Nat.lt_of_lt_of_le h1 hS0.1)).trans (hS0.2.1 q h1 h2), hS0.2.2⟩
  have hcA : cA = cy 16 := by
    obtain ⟨_, _, _, _, _, h5⟩ := (hK.2 4 _ rfl).2
    exact Option.some.inj (f1.symm.trans h5)
  show H1[base + S.1.length]? = some (vp_cell (cy 16) (n.toNatClampNeg, .inr (.inr (.inr (.inr (fun i => ((newC S 16 n.toNatClampNeg).2.2.2 S.1.length i).map (base + ·)))))))
  rw [← hG.1, e1, vp_cell_q, hcA]
  simp [newC, va_up, va_rf]
end GARR
