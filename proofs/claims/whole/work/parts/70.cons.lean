/-! ===== the constructors: the world grows cell by cell ===== -/
def t00 : Nat → Nat → Int64 := fun _ _ => 0
abbrev RHO : Type := Nat → Nat → Option Nat
abbrev cW (n : Nat) (w : WW) (ρ : RHO) : Sto := (kd0.take n, nw w, t00, ρ)
def ZR (n : Nat) (w : WW) (ρ : RHO) : Prop := (∀ k, n ≤ k → w k = fun _ => 0) ∧ (∀ k, n ≤ k → ρ k = fun _ => none)
theorem ZR.le {n m : Nat} {w : WW} {ρ : RHO} (h : ZR n w ρ) (hm : n ≤ m) : ZR m w ρ := ⟨fun k hk => h.1 k (Nat.le_trans hm hk), fun k hk => h.2 k (Nat.le_trans hm hk)⟩
theorem ZR.ref {n : Nat} {w : WW} {ρ : RHO} (h : ZR n w ρ) (k i : Nat) (x : Option Nat) (hk : k < n) : ZR n w (up2 ρ k i x) := ⟨h.1, fun j hj => by rw [up2_k _ _ _ _ (by omega)]; exact h.2 j hj⟩
theorem ZR.int {n : Nat} {w : WW} {ρ : RHO} (h : ZR n w ρ) (k i x : Nat) (hk : k < n) : ZR n (up2 w k i x) ρ := ⟨fun j hj => by rw [up2_k _ _ _ _ (by omega)]; exact h.1 j hj, h.2⟩
theorem ZR.fl {n : Nat} {w : WW} {ρ : RHO} (h : ZR n w ρ) (k a b x : Nat) (hk : k < n) : ZR n (flw w k a b x) ρ := ⟨fun j hj => by rw [flw_k _ _ _ _ _ (by omega)]; exact h.1 j hj, h.2⟩
theorem kd_len : kd0.length = 105 := by decide
theorem cw_len {n : Nat} (h : n ≤ 105) : (kd0.take n).length = n := by
  rw [List.length_take, kd_len]
  omega
theorem cw_lt {n : Nat} {q : Nat × Nat} (h : kd0[n]? = some q) : n < 105 := by
  have := (List.getElem?_eq_some_iff.mp h).1
  rw [kd_len] at this
  exact this
theorem cw_ok {n k : Nat} {q : Nat × Nat} (hk : k < n) (h : kd0[k]? = some q) : (kd0.take n)[k]? = some q := by
  rw [List.getElem?_take, if_pos hk]
  exact h
theorem cw_new {n c m : Nat} {w : WW} {ρ : RHO} (hd : kd0[n]? = some (c, m)) (hZ : ZR n w ρ) : newC (cW n w ρ) c m = cW (n + 1) w ρ := by
  have hl := cw_len (Nat.le_of_lt (cw_lt hd))
  have e1 : kd0.take n ++ [(c, m)] = kd0.take (n + 1) := by
    rw [List.take_add_one, hd]
    rfl
  have e2 : va_up (nw w) n (fun _ => 0) = nw w := by
    funext k
    by_cases h : k = n
    · subst h
      rw [va_up_self]
      funext i
      show (0 : Int32) = nI (w k i)
      rw [hZ.1 k (Nat.le_refl _)]
      rfl
    · rw [va_up_ne _ _ h]
  have e3 : va_up t00 n (fun _ => 0) = t00 := by
    funext k
    by_cases h : k = n
    · subst h
      rw [va_up_self]
      rfl
    · rw [va_up_ne _ _ h]
  have e4 : va_up ρ n (fun _ => none) = ρ := by
    funext k
    by_cases h : k = n
    · subst h
      rw [va_up_self, hZ.2 k (Nat.le_refl _)]
    · rw [va_up_ne _ _ h]
  show (kd0.take n ++ [(c, m)], va_up (nw w) (kd0.take n).length (fun _ => 0), va_up t00 (kd0.take n).length (fun _ => 0), va_up ρ (kd0.take n).length (fun _ => none)) = _
  rw [hl, e1, e2, e3, e4]
theorem cw_fl {n k a b z : Nat} {w : WW} {ρ : RHO} {v : Int32} (hv : v = nI z) : flS (cW n w ρ) k a b v = cW n (flw w k a b z) ρ := by
  show (kd0.take n, fl2 (nw w) k a b v, t00, ρ) = _
  rw [nw_fl w k a b z hv]
section CON
variable {d : Nat} {cc : ByteArray} {own : Nat} {nL : Nat} {rt : Option FieldType} {cp : Nat × Nat} {Post : Option Value → Sto → Prop} {pc : Nat} {lr : List (Nat × Value)} {w : WW} {ρ : RHO} {kc ks : Nat}
theorem R_ar_iconst {z t} {v : Int32} {f a i c n m k : Nat} (h : segB own true cc pc [(.aload_n 0, 1, 0, 0, 0, 0), (.iconst z, 1, 0, 0, 0, v), (.newarray t, 2, c, 0, 0, 0), (.putfield f, 3, a, i, 2, 0)] = true) (hv : v.toNatClampNeg = m ∧ ¬ v < 0 ∧ m ≤ 60000000) (hk : kd0[k]? = some (a, NN a)) (hkn : k < n) (hd : kd0[n]? = some (c, m)) (hb : kc + 1 ≤ cp.1 ∧ ks + m ≤ cp.2) (hZ : ZR n w ρ) (kx : ZR (n + 1) w (up2 ρ k i (some n)) → Runs (Ex d) cc own true nL rt none cp Post (pc + 7) ((0, .ref k) :: lr) [] (cW (n + 1) w (up2 ρ k i (some n))) (kc + 1) (ks + m)) : Runs (Ex d) cc own true nL rt none cp Post pc ((0, .ref k) :: lr) [] (cW n w ρ) kc ks := by
  obtain ⟨hv1, hv2, hv3⟩ := hv
  have hl := cw_len (Nat.le_of_lt (cw_lt hd))
  refine R_seg _ h (pc' := pc + 1 + 1 + 2 + 3) (lv' := (0, .ref k) :: lr) (st' := []) (S' := setR (newC (cW n w ρ) c v.toNatClampNeg) k i (some (kd0.take n).length)) (kc' := kc + 1) (ks' := ks + v.toNatClampNeg) rfl ⟨trivial, trivial, ⟨hv2, by rw [hv1]; exact hv3, hb.1, by rw [hv1]; exact hb.2⟩, ?_, trivial⟩ ?_
  · show (kd0.take n ++ [(c, v.toNatClampNeg)])[k]? = some (a, NN a)
    rw [List.getElem?_append_left (by rw [hl]; exact hkn)]
    exact cw_ok hkn hk
  · rw [hv1, cw_new hd hZ, hl]
    exact kx ((hZ.le (Nat.le_succ n)).ref k i (some n) (Nat.lt_succ_of_lt hkn))
theorem R_pi_iconst {z} {v : Int32} {f a i n k x : Nat} (h : segB own true cc pc [(.aload_n 0, 1, 0, 0, 0, 0), (.iconst z, 1, 0, 0, 0, v), (.putfield f, 3, a, i, 0, 0)] = true) (hv : v = nI x) (hz : zfit a i v) (hk : kd0[k]? = some (a, NN a)) (hkn : k < n) (hZ : ZR n w ρ) (kx : ZR n (up2 w k i x) ρ → Runs (Ex d) cc own true nL rt none cp Post (pc + 5) ((0, .ref k) :: lr) [] (cW n (up2 w k i x) ρ) kc ks) : Runs (Ex d) cc own true nL rt none cp Post pc ((0, .ref k) :: lr) [] (cW n w ρ) kc ks := by
  refine R_seg _ h (pc' := pc + 1 + 1 + 3) (lv' := (0, .ref k) :: lr) (st' := []) (S' := setI (cW n w ρ) k i v) (kc' := kc) (ks' := ks) rfl ⟨trivial, trivial, ⟨cw_ok hkn hk, hz⟩, trivial⟩ ?_
  show Runs (Ex d) cc own true nL rt none cp Post (pc + 5) ((0, .ref k) :: lr) [] (kd0.take n, up2 (nw w) k i v, t00, ρ) kc ks
  rw [nw_up hv]
  exact kx (hZ.int k i x hkn)
theorem R_ar_bipush {z t} {v : Int32} {f a i c n m k : Nat} (h : segB own true cc pc [(.aload_n 0, 1, 0, 0, 0, 0), (.bipush z, 2, 0, 0, 0, v), (.newarray t, 2, c, 0, 0, 0), (.putfield f, 3, a, i, 2, 0)] = true) (hv : v.toNatClampNeg = m ∧ ¬ v < 0 ∧ m ≤ 60000000) (hk : kd0[k]? = some (a, NN a)) (hkn : k < n) (hd : kd0[n]? = some (c, m)) (hb : kc + 1 ≤ cp.1 ∧ ks + m ≤ cp.2) (hZ : ZR n w ρ) (kx : ZR (n + 1) w (up2 ρ k i (some n)) → Runs (Ex d) cc own true nL rt none cp Post (pc + 8) ((0, .ref k) :: lr) [] (cW (n + 1) w (up2 ρ k i (some n))) (kc + 1) (ks + m)) : Runs (Ex d) cc own true nL rt none cp Post pc ((0, .ref k) :: lr) [] (cW n w ρ) kc ks := by
  obtain ⟨hv1, hv2, hv3⟩ := hv
  have hl := cw_len (Nat.le_of_lt (cw_lt hd))
  refine R_seg _ h (pc' := pc + 1 + 2 + 2 + 3) (lv' := (0, .ref k) :: lr) (st' := []) (S' := setR (newC (cW n w ρ) c v.toNatClampNeg) k i (some (kd0.take n).length)) (kc' := kc + 1) (ks' := ks + v.toNatClampNeg) rfl ⟨trivial, trivial, ⟨hv2, by rw [hv1]; exact hv3, hb.1, by rw [hv1]; exact hb.2⟩, ?_, trivial⟩ ?_
  · show (kd0.take n ++ [(c, v.toNatClampNeg)])[k]? = some (a, NN a)
    rw [List.getElem?_append_left (by rw [hl]; exact hkn)]
    exact cw_ok hkn hk
  · rw [hv1, cw_new hd hZ, hl]
    exact kx ((hZ.le (Nat.le_succ n)).ref k i (some n) (Nat.lt_succ_of_lt hkn))
theorem R_pi_bipush {z} {v : Int32} {f a i n k x : Nat} (h : segB own true cc pc [(.aload_n 0, 1, 0, 0, 0, 0), (.bipush z, 2, 0, 0, 0, v), (.putfield f, 3, a, i, 0, 0)] = true) (hv : v = nI x) (hz : zfit a i v) (hk : kd0[k]? = some (a, NN a)) (hkn : k < n) (hZ : ZR n w ρ) (kx : ZR n (up2 w k i x) ρ → Runs (Ex d) cc own true nL rt none cp Post (pc + 6) ((0, .ref k) :: lr) [] (cW n (up2 w k i x) ρ) kc ks) : Runs (Ex d) cc own true nL rt none cp Post pc ((0, .ref k) :: lr) [] (cW n w ρ) kc ks := by
  refine R_seg _ h (pc' := pc + 1 + 2 + 3) (lv' := (0, .ref k) :: lr) (st' := []) (S' := setI (cW n w ρ) k i v) (kc' := kc) (ks' := ks) rfl ⟨trivial, trivial, ⟨cw_ok hkn hk, hz⟩, trivial⟩ ?_
  show Runs (Ex d) cc own true nL rt none cp Post (pc + 6) ((0, .ref k) :: lr) [] (kd0.take n, up2 (nw w) k i v, t00, ρ) kc ks
  rw [nw_up hv]
  exact kx (hZ.int k i x hkn)
theorem R_ar_sipush {z t} {v : Int32} {f a i c n m k : Nat} (h : segB own true cc pc [(.aload_n 0, 1, 0, 0, 0, 0), (.sipush z, 3, 0, 0, 0, v), (.newarray t, 2, c, 0, 0, 0), (.putfield f, 3, a, i, 2, 0)] = true) (hv : v.toNatClampNeg = m ∧ ¬ v < 0 ∧ m ≤ 60000000) (hk : kd0[k]? = some (a, NN a)) (hkn : k < n) (hd : kd0[n]? = some (c, m)) (hb : kc + 1 ≤ cp.1 ∧ ks + m ≤ cp.2) (hZ : ZR n w ρ) (kx : ZR (n + 1) w (up2 ρ k i (some n)) → Runs (Ex d) cc own true nL rt none cp Post (pc + 9) ((0, .ref k) :: lr) [] (cW (n + 1) w (up2 ρ k i (some n))) (kc + 1) (ks + m)) : Runs (Ex d) cc own true nL rt none cp Post pc ((0, .ref k) :: lr) [] (cW n w ρ) kc ks := by
  obtain ⟨hv1, hv2, hv3⟩ := hv
  have hl := cw_len (Nat.le_of_lt (cw_lt hd))
  refine R_seg _ h (pc' := pc + 1 + 3 + 2 + 3) (lv' := (0, .ref k) :: lr) (st' := []) (S' := setR (newC (cW n w ρ) c v.toNatClampNeg) k i (some (kd0.take n).length)) (kc' := kc + 1) (ks' := ks + v.toNatClampNeg) rfl ⟨trivial, trivial, ⟨hv2, by rw [hv1]; exact hv3, hb.1, by rw [hv1]; exact hb.2⟩, ?_, trivial⟩ ?_
  · show (kd0.take n ++ [(c, v.toNatClampNeg)])[k]? = some (a, NN a)
    rw [List.getElem?_append_left (by rw [hl]; exact hkn)]
    exact cw_ok hkn hk
  · rw [hv1, cw_new hd hZ, hl]
    exact kx ((hZ.le (Nat.le_succ n)).ref k i (some n) (Nat.lt_succ_of_lt hkn))
theorem R_ar_ldc {z t} {v : Int32} {f a i c n m k : Nat} (h : segB own true cc pc [(.aload_n 0, 1, 0, 0, 0, 0), (.ldc z, 2, 0, 0, 0, v), (.newarray t, 2, c, 0, 0, 0), (.putfield f, 3, a, i, 2, 0)] = true) (hv : v.toNatClampNeg = m ∧ ¬ v < 0 ∧ m ≤ 60000000) (hk : kd0[k]? = some (a, NN a)) (hkn : k < n) (hd : kd0[n]? = some (c, m)) (hb : kc + 1 ≤ cp.1 ∧ ks + m ≤ cp.2) (hZ : ZR n w ρ) (kx : ZR (n + 1) w (up2 ρ k i (some n)) → Runs (Ex d) cc own true nL rt none cp Post (pc + 8) ((0, .ref k) :: lr) [] (cW (n + 1) w (up2 ρ k i (some n))) (kc + 1) (ks + m)) : Runs (Ex d) cc own true nL rt none cp Post pc ((0, .ref k) :: lr) [] (cW n w ρ) kc ks := by
  obtain ⟨hv1, hv2, hv3⟩ := hv
  have hl := cw_len (Nat.le_of_lt (cw_lt hd))
  refine R_seg _ h (pc' := pc + 1 + 2 + 2 + 3) (lv' := (0, .ref k) :: lr) (st' := []) (S' := setR (newC (cW n w ρ) c v.toNatClampNeg) k i (some (kd0.take n).length)) (kc' := kc + 1) (ks' := ks + v.toNatClampNeg) rfl ⟨trivial, trivial, ⟨hv2, by rw [hv1]; exact hv3, hb.1, by rw [hv1]; exact hb.2⟩, ?_, trivial⟩ ?_
  · show (kd0.take n ++ [(c, v.toNatClampNeg)])[k]? = some (a, NN a)
    rw [List.getElem?_append_left (by rw [hl]; exact hkn)]
    exact cw_ok hkn hk
  · rw [hv1, cw_new hd hZ, hl]
    exact kx ((hZ.le (Nat.le_succ n)).ref k i (some n) (Nat.lt_succ_of_lt hkn))
theorem R_ob {f : Nat} {k : Nat} {S : Sto} (h : segB own true cc 0 [(.aload_n 0, 1, 0, 0, 0, 0), (.invokespecial f, 3, 0, 4, 0, 0)] = true) (kx : Runs (Ex d) cc own true nL rt none cp Post 4 ((0, .ref k) :: lr) [] S kc ks) : Runs (Ex d) cc own true nL rt none cp Post 0 ((0, .ref k) :: lr) [] S kc ks :=
  R_seg _ h (pc' := 4) (lv' := (0, .ref k) :: lr) (st' := []) (S' := S) (kc' := kc) (ks' := ks) rfl ⟨trivial, Nat.zero_le _, trivial⟩ kx
theorem R_aast {len a b kk : Nat} {v i : Int32} {k n j x : Nat} {lv : List (Nat × Value)} {r : List Value} {S : Sto} (h : decode cc pc = .ok (.aastore, len) ∧ lnkB own true pc (.aastore, len, a, b, kk, v) = true) (hk : S.1[k]? = some (16, n)) (hi : i = nI j) (hj : j < n) (hx : okO S x 2) (kx : Runs (Ex d) cc own true nL rt none cp Post (pc + 1) lv r (setR S k j (some x)) kc ks) (hn : n < 2147483648 := by decide) : Runs (Ex d) cc own true nL rt none cp Post pc lv (.ref x :: .int i :: .ref k :: r) S kc ks :=
  Runs.step (.aastore, len, a, b, kk, v) h.1 h.2 (Or.inl ⟨_, _, rfl, ⟨⟨n, hk, by rw [hi]; exact vp_in_nI hj hn⟩, hx⟩, by show Runs (Ex d) cc own true nL rt none cp Post (pc + 1) lv r (setR S k i.toNatClampNeg (some x)) kc ks; rw [clampN hi (Nat.lt_trans hj hn)]; exact kx⟩)
end CON
def r_6 (ρ : RHO) : RHO := (up2 (up2 (up2 (up2 ρ 1 0 (some 2)) 1 1 (some 3)) 1 2 (some 4)) 1 3 (some 5))
def w_6 (w : WW) : WW := (flw (flw (flw (flw w 2 0 4 63) 3 0 4 100) 4 0 4 10) 5 0 4 100)
set_option maxHeartbeats 4000000 in
theorem cn_6 {d : Nat} {w : WW} {ρ : RHO} {Post : Option Value → Sto → Prop} (z0 : ZR 2 w ρ) (hp : ZR 6 (w_6 w) (r_6 ρ) → Post none (cW 6 (w_6 w) (r_6 ρ))) : Ex (d + 1 + 1) 6 [.ref 1] (cW 2 w ρ) 4 16 Post := by
  refine en_6 (Nat.le_of_ble_eq_true rfl) ?_
  show RU_6 (d + 1) (4, 16) Post 0 [(0, .ref 1)] [] (cW 2 w ρ) 0 0
  refine R_ob (by decide +kernel : segB 1 true prog_3_method_1_code 0 [(.aload_n 0, 1, 0, 0, 0, 0), (.invokespecial 3, 3, 0, 4, 0, 0)] = true) ?_
  refine R_ar_iconst (k := 1) (n := 2) (m := 4) (by decide +kernel : segB 1 true prog_3_method_1_code 4 [(.aload_n 0, 1, 0, 0, 0, 0), (.iconst 4, 1, 0, 0, 0, 4), (.newarray .int, 2, 13, 0, 0, 0), (.putfield 9, 3, 1, 0, 2, 0)] = true) ⟨by decide, by decide, by decide⟩ rfl (by decide) rfl ⟨by decide, by decide⟩ z0 (fun z1 => ?_)
  refine R_ar_iconst (k := 1) (n := 3) (m := 4) (by decide +kernel : segB 1 true prog_3_method_1_code 11 [(.aload_n 0, 1, 0, 0, 0, 0), (.iconst 4, 1, 0, 0, 0, 4), (.newarray .int, 2, 13, 0, 0, 0), (.putfield 15, 3, 1, 1, 2, 0)] = true) ⟨by decide, by decide, by decide⟩ rfl (by decide) rfl ⟨by decide, by decide⟩ z1 (fun z2 => ?_)
  refine R_ar_iconst (k := 1) (n := 4) (m := 4) (by decide +kernel : segB 1 true prog_3_method_1_code 18 [(.aload_n 0, 1, 0, 0, 0, 0), (.iconst 4, 1, 0, 0, 0, 4), (.newarray .int, 2, 13, 0, 0, 0), (.putfield 18, 3, 1, 2, 2, 0)] = true) ⟨by decide, by decide, by decide⟩ rfl (by decide) rfl ⟨by decide, by decide⟩ z2 (fun z3 => ?_)
  refine R_ar_iconst (k := 1) (n := 5) (m := 4) (by decide +kernel : segB 1 true prog_3_method_1_code 25 [(.aload_n 0, 1, 0, 0, 0, 0), (.iconst 4, 1, 0, 0, 0, 4), (.newarray .int, 2, 13, 0, 0, 0), (.putfield 21, 3, 1, 3, 2, 0)] = true) ⟨by decide, by decide, by decide⟩ rfl (by decide) rfl ⟨by decide, by decide⟩ z3 (fun z4 => ?_)
  refine R_seg [(.aload_n 0, 1, 0, 0, 0, 0), (.getfield 9, 3, 1, 0, 2, 0), (.bipush 63, 2, 0, 0, 0, 63)] (by decide +kernel : segB 1 true prog_3_method_1_code 32 [(.aload_n 0, 1, 0, 0, 0, 0), (.getfield 9, 3, 1, 0, 2, 0), (.bipush 63, 2, 0, 0, 0, 63)] = true) (pc' := 38) (lv' := [(0, .ref 1)]) (st' := [.int (63), .ref 2]) (S' := cW 6 _ _) (kc' := 4) (ks' := 16) rfl ⟨trivial, cw_ok (by decide) rfl, trivial, trivial⟩ ?_
  refine R_stat ck_6_38 (by decide) [.ref 2, .int (63)] 0 0 rfl rfl (by decide) (by decide) (by decide) ?_
  refine x_130 (d := d) (z := 4) (cw_ok (by decide) rfl) (by decide) ?_
  rw [cw_fl (v := 63) (z := 63) rfl]
  have z5 := z4.fl 2 0 4 63 (by decide)
  show RU_6 (d + 1) _ _ 41 [(0, .ref 1)] [] _ 4 16
  refine R_seg [(.aload_n 0, 1, 0, 0, 0, 0), (.getfield 15, 3, 1, 1, 2, 0), (.bipush 100, 2, 0, 0, 0, 100)] (by decide +kernel : segB 1 true prog_3_method_1_code 41 [(.aload_n 0, 1, 0, 0, 0, 0), (.getfield 15, 3, 1, 1, 2, 0), (.bipush 100, 2, 0, 0, 0, 100)] = true) (pc' := 47) (lv' := [(0, .ref 1)]) (st' := [.int (100), .ref 3]) (S' := cW 6 _ _) (kc' := 4) (ks' := 16) rfl ⟨trivial, cw_ok (by decide) rfl, trivial, trivial⟩ ?_
  refine R_stat ck_6_47 (by decide) [.ref 3, .int (100)] 0 0 rfl rfl (by decide) (by decide) (by decide) ?_
  refine x_130 (d := d) (z := 4) (cw_ok (by decide) rfl) (by decide) ?_
  rw [cw_fl (v := 100) (z := 100) rfl]
  have z6 := z5.fl 3 0 4 100 (by decide)
  show RU_6 (d + 1) _ _ 50 [(0, .ref 1)] [] _ 4 16
  refine R_seg [(.aload_n 0, 1, 0, 0, 0, 0), (.getfield 18, 3, 1, 2, 2, 0), (.bipush 10, 2, 0, 0, 0, 10)] (by decide +kernel : segB 1 true prog_3_method_1_code 50 [(.aload_n 0, 1, 0, 0, 0, 0), (.getfield 18, 3, 1, 2, 2, 0), (.bipush 10, 2, 0, 0, 0, 10)] = true) (pc' := 56) (lv' := [(0, .ref 1)]) (st' := [.int (10), .ref 4]) (S' := cW 6 _ _) (kc' := 4) (ks' := 16) rfl ⟨trivial, cw_ok (by decide) rfl, trivial, trivial⟩ ?_
  refine R_stat ck_6_56 (by decide) [.ref 4, .int (10)] 0 0 rfl rfl (by decide) (by decide) (by decide) ?_
  refine x_130 (d := d) (z := 4) (cw_ok (by decide) rfl) (by decide) ?_
  rw [cw_fl (v := 10) (z := 10) rfl]
  have z7 := z6.fl 4 0 4 10 (by decide)
  show RU_6 (d + 1) _ _ 59 [(0, .ref 1)] [] _ 4 16
  refine R_seg [(.aload_n 0, 1, 0, 0, 0, 0), (.getfield 21, 3, 1, 3, 2, 0), (.bipush 100, 2, 0, 0, 0, 100)] (by decide +kernel : segB 1 true prog_3_method_1_code 59 [(.aload_n 0, 1, 0, 0, 0, 0), (.getfield 21, 3, 1, 3, 2, 0), (.bipush 100, 2, 0, 0, 0, 100)] = true) (pc' := 65) (lv' := [(0, .ref 1)]) (st' := [.int (100), .ref 5]) (S' := cW 6 _ _) (kc' := 4) (ks' := 16) rfl ⟨trivial, cw_ok (by decide) rfl, trivial, trivial⟩ ?_
  refine R_stat ck_6_65 (by decide) [.ref 5, .int (100)] 0 0 rfl rfl (by decide) (by decide) (by decide) ?_
  refine x_130 (d := d) (z := 4) (cw_ok (by decide) rfl) (by decide) ?_
  rw [cw_fl (v := 100) (z := 100) rfl]
  have z8 := z7.fl 5 0 4 100 (by decide)
  show RU_6 (d + 1) _ _ 68 [(0, .ref 1)] [] _ 4 16
  exact R_ret ck_6_68 rfl (hp z8)
def w_8_0 (w : WW) : WW := (up2 (up2 (up2 (up2 (up2 (up2 (up2 (up2 (up2 w 11 0 1) 11 1 8) 11 2 8) 11 3 0) 11 4 10) 11 5 1) 11 6 0) 11 7 0) 11 8 N1)
set_option maxHeartbeats 4000000 in
theorem cn_8_0 {d : Nat} {w : WW} {ρ : RHO} {Post : Option Value → Sto → Prop} (z0 : ZR 12 w ρ) (hp : ZR 12 (w_8_0 w) ρ → Post none (cW 12 (w_8_0 w) ρ)) : Ex (d + 1) 8 [.ref 11] (cW 12 w ρ) 0 0 Post := by
  refine en_8 (Nat.le_of_ble_eq_true rfl) ?_
  show RU_8 d (0, 0) Post 0 [(0, .ref 11)] [] (cW 12 w ρ) 0 0
  refine R_ob (by decide +kernel : segB 2 true prog_4_method_1_code 0 [(.aload_n 0, 1, 0, 0, 0, 0), (.invokespecial 3, 3, 0, 4, 0, 0)] = true) ?_
  refine R_pi_iconst (k := 11) (x := 1) (by decide +kernel : segB 2 true prog_4_method_1_code 4 [(.aload_n 0, 1, 0, 0, 0, 0), (.iconst 1, 1, 0, 0, 0, 1), (.putfield 9, 3, 2, 0, 0, 0)] = true) rfl ⟨rfl, rfl⟩ rfl (by decide) z0 (fun z1 => ?_)
  refine R_pi_bipush (k := 11) (x := 8) (by decide +kernel : segB 2 true prog_4_method_1_code 9 [(.aload_n 0, 1, 0, 0, 0, 0), (.bipush 8, 2, 0, 0, 0, 8), (.putfield 15, 3, 2, 1, 0, 0)] = true) rfl ⟨rfl, rfl⟩ rfl (by decide) z1 (fun z2 => ?_)
  refine R_pi_bipush (k := 11) (x := 8) (by decide +kernel : segB 2 true prog_4_method_1_code 15 [(.aload_n 0, 1, 0, 0, 0, 0), (.bipush 8, 2, 0, 0, 0, 8), (.putfield 18, 3, 2, 2, 0, 0)] = true) rfl ⟨rfl, rfl⟩ rfl (by decide) z2 (fun z3 => ?_)
  refine R_pi_iconst (k := 11) (x := 0) (by decide +kernel : segB 2 true prog_4_method_1_code 21 [(.aload_n 0, 1, 0, 0, 0, 0), (.iconst 0, 1, 0, 0, 0, 0), (.putfield 21, 3, 2, 3, 0, 0)] = true) rfl ⟨rfl, rfl⟩ rfl (by decide) z3 (fun z4 => ?_)
  refine R_pi_bipush (k := 11) (x := 10) (by decide +kernel : segB 2 true prog_4_method_1_code 26 [(.aload_n 0, 1, 0, 0, 0, 0), (.bipush 10, 2, 0, 0, 0, 10), (.putfield 24, 3, 2, 4, 0, 0)] = true) rfl ⟨rfl, rfl⟩ rfl (by decide) z4 (fun z5 => ?_)
  refine R_pi_iconst (k := 11) (x := 1) (by decide +kernel : segB 2 true prog_4_method_1_code 32 [(.aload_n 0, 1, 0, 0, 0, 0), (.iconst 1, 1, 0, 0, 0, 1), (.putfield 27, 3, 2, 5, 0, 0)] = true) rfl ⟨rfl, rfl⟩ rfl (by decide) z5 (fun z6 => ?_)
  refine R_pi_iconst (k := 11) (x := 0) (by decide +kernel : segB 2 true prog_4_method_1_code 37 [(.aload_n 0, 1, 0, 0, 0, 0), (.iconst 0, 1, 0, 0, 0, 0), (.putfield 31, 3, 2, 6, 0, 0)] = true) rfl ⟨rfl, rfl⟩ rfl (by decide) z6 (fun z7 => ?_)
  refine R_pi_iconst (k := 11) (x := 0) (by decide +kernel : segB 2 true prog_4_method_1_code 42 [(.aload_n 0, 1, 0, 0, 0, 0), (.iconst 0, 1, 0, 0, 0, 0), (.putfield 34, 3, 2, 7, 0, 0)] = true) rfl ⟨rfl, rfl⟩ rfl (by decide) z7 (fun z8 => ?_)
  refine R_pi_iconst (k := 11) (x := N1) (by decide +kernel : segB 2 true prog_4_method_1_code 47 [(.aload_n 0, 1, 0, 0, 0, 0), (.iconst (-1), 1, 0, 0, 0, -1), (.putfield 37, 3, 2, 8, 0, 0)] = true) rfl ⟨rfl, rfl⟩ rfl (by decide) z8 (fun z9 => ?_)
  exact R_ret ck_8_52 rfl (hp z9)
def w_8_1 (w : WW) : WW := (up2 (up2 (up2 (up2 (up2 (up2 (up2 (up2 (up2 w 12 0 1) 12 1 8) 12 2 8) 12 3 0) 12 4 10) 12 5 1) 12 6 0) 12 7 0) 12 8 N1)
set_option maxHeartbeats 4000000 in
theorem cn_8_1 {d : Nat} {w : WW} {ρ : RHO} {Post : Option Value → Sto → Prop} (z0 : ZR 13 w ρ) (hp : ZR 13 (w_8_1 w) ρ → Post none (cW 13 (w_8_1 w) ρ)) : Ex (d + 1) 8 [.ref 12] (cW 13 w ρ) 0 0 Post := by
  refine en_8 (Nat.le_of_ble_eq_true rfl) ?_
  show RU_8 d (0, 0) Post 0 [(0, .ref 12)] [] (cW 13 w ρ) 0 0
  refine R_ob (by decide +kernel : segB 2 true prog_4_method_1_code 0 [(.aload_n 0, 1, 0, 0, 0, 0), (.invokespecial 3, 3, 0, 4, 0, 0)] = true) ?_
  refine R_pi_iconst (k := 12) (x := 1) (by decide +kernel : segB 2 true prog_4_method_1_code 4 [(.aload_n 0, 1, 0, 0, 0, 0), (.iconst 1, 1, 0, 0, 0, 1), (.putfield 9, 3, 2, 0, 0, 0)] = true) rfl ⟨rfl, rfl⟩ rfl (by decide) z0 (fun z1 => ?_)
  refine R_pi_bipush (k := 12) (x := 8) (by decide +kernel : segB 2 true prog_4_method_1_code 9 [(.aload_n 0, 1, 0, 0, 0, 0), (.bipush 8, 2, 0, 0, 0, 8), (.putfield 15, 3, 2, 1, 0, 0)] = true) rfl ⟨rfl, rfl⟩ rfl (by decide) z1 (fun z2 => ?_)
  refine R_pi_bipush (k := 12) (x := 8) (by decide +kernel : segB 2 true prog_4_method_1_code 15 [(.aload_n 0, 1, 0, 0, 0, 0), (.bipush 8, 2, 0, 0, 0, 8), (.putfield 18, 3, 2, 2, 0, 0)] = true) rfl ⟨rfl, rfl⟩ rfl (by decide) z2 (fun z3 => ?_)
  refine R_pi_iconst (k := 12) (x := 0) (by decide +kernel : segB 2 true prog_4_method_1_code 21 [(.aload_n 0, 1, 0, 0, 0, 0), (.iconst 0, 1, 0, 0, 0, 0), (.putfield 21, 3, 2, 3, 0, 0)] = true) rfl ⟨rfl, rfl⟩ rfl (by decide) z3 (fun z4 => ?_)
  refine R_pi_bipush (k := 12) (x := 10) (by decide +kernel : segB 2 true prog_4_method_1_code 26 [(.aload_n 0, 1, 0, 0, 0, 0), (.bipush 10, 2, 0, 0, 0, 10), (.putfield 24, 3, 2, 4, 0, 0)] = true) rfl ⟨rfl, rfl⟩ rfl (by decide) z4 (fun z5 => ?_)
  refine R_pi_iconst (k := 12) (x := 1) (by decide +kernel : segB 2 true prog_4_method_1_code 32 [(.aload_n 0, 1, 0, 0, 0, 0), (.iconst 1, 1, 0, 0, 0, 1), (.putfield 27, 3, 2, 5, 0, 0)] = true) rfl ⟨rfl, rfl⟩ rfl (by decide) z5 (fun z6 => ?_)
  refine R_pi_iconst (k := 12) (x := 0) (by decide +kernel : segB 2 true prog_4_method_1_code 37 [(.aload_n 0, 1, 0, 0, 0, 0), (.iconst 0, 1, 0, 0, 0, 0), (.putfield 31, 3, 2, 6, 0, 0)] = true) rfl ⟨rfl, rfl⟩ rfl (by decide) z6 (fun z7 => ?_)
  refine R_pi_iconst (k := 12) (x := 0) (by decide +kernel : segB 2 true prog_4_method_1_code 42 [(.aload_n 0, 1, 0, 0, 0, 0), (.iconst 0, 1, 0, 0, 0, 0), (.putfield 34, 3, 2, 7, 0, 0)] = true) rfl ⟨rfl, rfl⟩ rfl (by decide) z7 (fun z8 => ?_)
  refine R_pi_iconst (k := 12) (x := N1) (by decide +kernel : segB 2 true prog_4_method_1_code 47 [(.aload_n 0, 1, 0, 0, 0, 0), (.iconst (-1), 1, 0, 0, 0, -1), (.putfield 37, 3, 2, 8, 0, 0)] = true) rfl ⟨rfl, rfl⟩ rfl (by decide) z8 (fun z9 => ?_)
  exact R_ret ck_8_52 rfl (hp z9)
def w_8_2 (w : WW) : WW := (up2 (up2 (up2 (up2 (up2 (up2 (up2 (up2 (up2 w 13 0 1) 13 1 8) 13 2 8) 13 3 0) 13 4 10) 13 5 1) 13 6 0) 13 7 0) 13 8 N1)
set_option maxHeartbeats 4000000 in
theorem cn_8_2 {d : Nat} {w : WW} {ρ : RHO} {Post : Option Value → Sto → Prop} (z0 : ZR 14 w ρ) (hp : ZR 14 (w_8_2 w) ρ → Post none (cW 14 (w_8_2 w) ρ)) : Ex (d + 1) 8 [.ref 13] (cW 14 w ρ) 0 0 Post := by
  refine en_8 (Nat.le_of_ble_eq_true rfl) ?_
  show RU_8 d (0, 0) Post 0 [(0, .ref 13)] [] (cW 14 w ρ) 0 0
  refine R_ob (by decide +kernel : segB 2 true prog_4_method_1_code 0 [(.aload_n 0, 1, 0, 0, 0, 0), (.invokespecial 3, 3, 0, 4, 0, 0)] = true) ?_
  refine R_pi_iconst (k := 13) (x := 1) (by decide +kernel : segB 2 true prog_4_method_1_code 4 [(.aload_n 0, 1, 0, 0, 0, 0), (.iconst 1, 1, 0, 0, 0, 1), (.putfield 9, 3, 2, 0, 0, 0)] = true) rfl ⟨rfl, rfl⟩ rfl (by decide) z0 (fun z1 => ?_)
  refine R_pi_bipush (k := 13) (x := 8) (by decide +kernel : segB 2 true prog_4_method_1_code 9 [(.aload_n 0, 1, 0, 0, 0, 0), (.bipush 8, 2, 0, 0, 0, 8), (.putfield 15, 3, 2, 1, 0, 0)] = true) rfl ⟨rfl, rfl⟩ rfl (by decide) z1 (fun z2 => ?_)
  refine R_pi_bipush (k := 13) (x := 8) (by decide +kernel : segB 2 true prog_4_method_1_code 15 [(.aload_n 0, 1, 0, 0, 0, 0), (.bipush 8, 2, 0, 0, 0, 8), (.putfield 18, 3, 2, 2, 0, 0)] = true) rfl ⟨rfl, rfl⟩ rfl (by decide) z2 (fun z3 => ?_)
  refine R_pi_iconst (k := 13) (x := 0) (by decide +kernel : segB 2 true prog_4_method_1_code 21 [(.aload_n 0, 1, 0, 0, 0, 0), (.iconst 0, 1, 0, 0, 0, 0), (.putfield 21, 3, 2, 3, 0, 0)] = true) rfl ⟨rfl, rfl⟩ rfl (by decide) z3 (fun z4 => ?_)
  refine R_pi_bipush (k := 13) (x := 10) (by decide +kernel : segB 2 true prog_4_method_1_code 26 [(.aload_n 0, 1, 0, 0, 0, 0), (.bipush 10, 2, 0, 0, 0, 10), (.putfield 24, 3, 2, 4, 0, 0)] = true) rfl ⟨rfl, rfl⟩ rfl (by decide) z4 (fun z5 => ?_)
  refine R_pi_iconst (k := 13) (x := 1) (by decide +kernel : segB 2 true prog_4_method_1_code 32 [(.aload_n 0, 1, 0, 0, 0, 0), (.iconst 1, 1, 0, 0, 0, 1), (.putfield 27, 3, 2, 5, 0, 0)] = true) rfl ⟨rfl, rfl⟩ rfl (by decide) z5 (fun z6 => ?_)
  refine R_pi_iconst (k := 13) (x := 0) (by decide +kernel : segB 2 true prog_4_method_1_code 37 [(.aload_n 0, 1, 0, 0, 0, 0), (.iconst 0, 1, 0, 0, 0, 0), (.putfield 31, 3, 2, 6, 0, 0)] = true) rfl ⟨rfl, rfl⟩ rfl (by decide) z6 (fun z7 => ?_)
  refine R_pi_iconst (k := 13) (x := 0) (by decide +kernel : segB 2 true prog_4_method_1_code 42 [(.aload_n 0, 1, 0, 0, 0, 0), (.iconst 0, 1, 0, 0, 0, 0), (.putfield 34, 3, 2, 7, 0, 0)] = true) rfl ⟨rfl, rfl⟩ rfl (by decide) z7 (fun z8 => ?_)
  refine R_pi_iconst (k := 13) (x := N1) (by decide +kernel : segB 2 true prog_4_method_1_code 47 [(.aload_n 0, 1, 0, 0, 0, 0), (.iconst (-1), 1, 0, 0, 0, -1), (.putfield 37, 3, 2, 8, 0, 0)] = true) rfl ⟨rfl, rfl⟩ rfl (by decide) z8 (fun z9 => ?_)
  exact R_ret ck_8_52 rfl (hp z9)
def w_8_3 (w : WW) : WW := (up2 (up2 (up2 (up2 (up2 (up2 (up2 (up2 (up2 w 14 0 1) 14 1 8) 14 2 8) 14 3 0) 14 4 10) 14 5 1) 14 6 0) 14 7 0) 14 8 N1)
set_option maxHeartbeats 4000000 in
theorem cn_8_3 {d : Nat} {w : WW} {ρ : RHO} {Post : Option Value → Sto → Prop} (z0 : ZR 15 w ρ) (hp : ZR 15 (w_8_3 w) ρ → Post none (cW 15 (w_8_3 w) ρ)) : Ex (d + 1) 8 [.ref 14] (cW 15 w ρ) 0 0 Post := by
  refine en_8 (Nat.le_of_ble_eq_true rfl) ?_
  show RU_8 d (0, 0) Post 0 [(0, .ref 14)] [] (cW 15 w ρ) 0 0
  refine R_ob (by decide +kernel : segB 2 true prog_4_method_1_code 0 [(.aload_n 0, 1, 0, 0, 0, 0), (.invokespecial 3, 3, 0, 4, 0, 0)] = true) ?_
  refine R_pi_iconst (k := 14) (x := 1) (by decide +kernel : segB 2 true prog_4_method_1_code 4 [(.aload_n 0, 1, 0, 0, 0, 0), (.iconst 1, 1, 0, 0, 0, 1), (.putfield 9, 3, 2, 0, 0, 0)] = true) rfl ⟨rfl, rfl⟩ rfl (by decide) z0 (fun z1 => ?_)
  refine R_pi_bipush (k := 14) (x := 8) (by decide +kernel : segB 2 true prog_4_method_1_code 9 [(.aload_n 0, 1, 0, 0, 0, 0), (.bipush 8, 2, 0, 0, 0, 8), (.putfield 15, 3, 2, 1, 0, 0)] = true) rfl ⟨rfl, rfl⟩ rfl (by decide) z1 (fun z2 => ?_)
  refine R_pi_bipush (k := 14) (x := 8) (by decide +kernel : segB 2 true prog_4_method_1_code 15 [(.aload_n 0, 1, 0, 0, 0, 0), (.bipush 8, 2, 0, 0, 0, 8), (.putfield 18, 3, 2, 2, 0, 0)] = true) rfl ⟨rfl, rfl⟩ rfl (by decide) z2 (fun z3 => ?_)
  refine R_pi_iconst (k := 14) (x := 0) (by decide +kernel : segB 2 true prog_4_method_1_code 21 [(.aload_n 0, 1, 0, 0, 0, 0), (.iconst 0, 1, 0, 0, 0, 0), (.putfield 21, 3, 2, 3, 0, 0)] = true) rfl ⟨rfl, rfl⟩ rfl (by decide) z3 (fun z4 => ?_)
  refine R_pi_bipush (k := 14) (x := 10) (by decide +kernel : segB 2 true prog_4_method_1_code 26 [(.aload_n 0, 1, 0, 0, 0, 0), (.bipush 10, 2, 0, 0, 0, 10), (.putfield 24, 3, 2, 4, 0, 0)] = true) rfl ⟨rfl, rfl⟩ rfl (by decide) z4 (fun z5 => ?_)
  refine R_pi_iconst (k := 14) (x := 1) (by decide +kernel : segB 2 true prog_4_method_1_code 32 [(.aload_n 0, 1, 0, 0, 0, 0), (.iconst 1, 1, 0, 0, 0, 1), (.putfield 27, 3, 2, 5, 0, 0)] = true) rfl ⟨rfl, rfl⟩ rfl (by decide) z5 (fun z6 => ?_)
  refine R_pi_iconst (k := 14) (x := 0) (by decide +kernel : segB 2 true prog_4_method_1_code 37 [(.aload_n 0, 1, 0, 0, 0, 0), (.iconst 0, 1, 0, 0, 0, 0), (.putfield 31, 3, 2, 6, 0, 0)] = true) rfl ⟨rfl, rfl⟩ rfl (by decide) z6 (fun z7 => ?_)
  refine R_pi_iconst (k := 14) (x := 0) (by decide +kernel : segB 2 true prog_4_method_1_code 42 [(.aload_n 0, 1, 0, 0, 0, 0), (.iconst 0, 1, 0, 0, 0, 0), (.putfield 34, 3, 2, 7, 0, 0)] = true) rfl ⟨rfl, rfl⟩ rfl (by decide) z7 (fun z8 => ?_)
  refine R_pi_iconst (k := 14) (x := N1) (by decide +kernel : segB 2 true prog_4_method_1_code 47 [(.aload_n 0, 1, 0, 0, 0, 0), (.iconst (-1), 1, 0, 0, 0, -1), (.putfield 37, 3, 2, 8, 0, 0)] = true) rfl ⟨rfl, rfl⟩ rfl (by decide) z8 (fun z9 => ?_)
  exact R_ret ck_8_52 rfl (hp z9)
def w_8_4 (w : WW) : WW := (up2 (up2 (up2 (up2 (up2 (up2 (up2 (up2 (up2 w 15 0 1) 15 1 8) 15 2 8) 15 3 0) 15 4 10) 15 5 1) 15 6 0) 15 7 0) 15 8 N1)
set_option maxHeartbeats 4000000 in
theorem cn_8_4 {d : Nat} {w : WW} {ρ : RHO} {Post : Option Value → Sto → Prop} (z0 : ZR 16 w ρ) (hp : ZR 16 (w_8_4 w) ρ → Post none (cW 16 (w_8_4 w) ρ)) : Ex (d + 1) 8 [.ref 15] (cW 16 w ρ) 0 0 Post := by
  refine en_8 (Nat.le_of_ble_eq_true rfl) ?_
  show RU_8 d (0, 0) Post 0 [(0, .ref 15)] [] (cW 16 w ρ) 0 0
  refine R_ob (by decide +kernel : segB 2 true prog_4_method_1_code 0 [(.aload_n 0, 1, 0, 0, 0, 0), (.invokespecial 3, 3, 0, 4, 0, 0)] = true) ?_
  refine R_pi_iconst (k := 15) (x := 1) (by decide +kernel : segB 2 true prog_4_method_1_code 4 [(.aload_n 0, 1, 0, 0, 0, 0), (.iconst 1, 1, 0, 0, 0, 1), (.putfield 9, 3, 2, 0, 0, 0)] = true) rfl ⟨rfl, rfl⟩ rfl (by decide) z0 (fun z1 => ?_)
  refine R_pi_bipush (k := 15) (x := 8) (by decide +kernel : segB 2 true prog_4_method_1_code 9 [(.aload_n 0, 1, 0, 0, 0, 0), (.bipush 8, 2, 0, 0, 0, 8), (.putfield 15, 3, 2, 1, 0, 0)] = true) rfl ⟨rfl, rfl⟩ rfl (by decide) z1 (fun z2 => ?_)
  refine R_pi_bipush (k := 15) (x := 8) (by decide +kernel : segB 2 true prog_4_method_1_code 15 [(.aload_n 0, 1, 0, 0, 0, 0), (.bipush 8, 2, 0, 0, 0, 8), (.putfield 18, 3, 2, 2, 0, 0)] = true) rfl ⟨rfl, rfl⟩ rfl (by decide) z2 (fun z3 => ?_)
  refine R_pi_iconst (k := 15) (x := 0) (by decide +kernel : segB 2 true prog_4_method_1_code 21 [(.aload_n 0, 1, 0, 0, 0, 0), (.iconst 0, 1, 0, 0, 0, 0), (.putfield 21, 3, 2, 3, 0, 0)] = true) rfl ⟨rfl, rfl⟩ rfl (by decide) z3 (fun z4 => ?_)
  refine R_pi_bipush (k := 15) (x := 10) (by decide +kernel : segB 2 true prog_4_method_1_code 26 [(.aload_n 0, 1, 0, 0, 0, 0), (.bipush 10, 2, 0, 0, 0, 10), (.putfield 24, 3, 2, 4, 0, 0)] = true) rfl ⟨rfl, rfl⟩ rfl (by decide) z4 (fun z5 => ?_)
  refine R_pi_iconst (k := 15) (x := 1) (by decide +kernel : segB 2 true prog_4_method_1_code 32 [(.aload_n 0, 1, 0, 0, 0, 0), (.iconst 1, 1, 0, 0, 0, 1), (.putfield 27, 3, 2, 5, 0, 0)] = true) rfl ⟨rfl, rfl⟩ rfl (by decide) z5 (fun z6 => ?_)
  refine R_pi_iconst (k := 15) (x := 0) (by decide +kernel : segB 2 true prog_4_method_1_code 37 [(.aload_n 0, 1, 0, 0, 0, 0), (.iconst 0, 1, 0, 0, 0, 0), (.putfield 31, 3, 2, 6, 0, 0)] = true) rfl ⟨rfl, rfl⟩ rfl (by decide) z6 (fun z7 => ?_)
  refine R_pi_iconst (k := 15) (x := 0) (by decide +kernel : segB 2 true prog_4_method_1_code 42 [(.aload_n 0, 1, 0, 0, 0, 0), (.iconst 0, 1, 0, 0, 0, 0), (.putfield 34, 3, 2, 7, 0, 0)] = true) rfl ⟨rfl, rfl⟩ rfl (by decide) z7 (fun z8 => ?_)
  refine R_pi_iconst (k := 15) (x := N1) (by decide +kernel : segB 2 true prog_4_method_1_code 47 [(.aload_n 0, 1, 0, 0, 0, 0), (.iconst (-1), 1, 0, 0, 0, -1), (.putfield 37, 3, 2, 8, 0, 0)] = true) rfl ⟨rfl, rfl⟩ rfl (by decide) z8 (fun z9 => ?_)
  exact R_ret ck_8_52 rfl (hp z9)
theorem ca_13_55 : decode prog_5_method_1_code 55 = .ok (.aastore, 1) ∧ lnkB 3 true 55 (.aastore, 1, 0, 0, 0, 0) = true := by decide +kernel
def r_13 (ρ : RHO) : RHO := (up2 (up2 (up2 (up2 (up2 (up2 (up2 (up2 (up2 ρ 6 0 (some 7)) 6 2 (some 8)) 6 3 (some 9)) 6 4 (some 10)) 7 0 (some 11)) 7 1 (some 12)) 7 2 (some 13)) 7 3 (some 14)) 7 4 (some 15))
def w_13 (w : WW) : WW := (w_8_4 (w_8_3 (w_8_2 (w_8_1 (w_8_0 w)))))
set_option maxHeartbeats 4000000 in
theorem cn_13 {d : Nat} {w : WW} {ρ : RHO} {Post : Option Value → Sto → Prop} (z0 : ZR 7 w ρ) (hp : ZR 16 (w_13 w) (r_13 ρ) → Post none (cW 16 (w_13 w) (r_13 ρ))) : Ex (d + 1 + 1) 13 [.ref 6] (cW 7 w ρ) 9 110 Post := by
  refine en_13 (Nat.le_of_ble_eq_true rfl) ?_
  show RU_13 (d + 1) (9, 110) Post 0 [(0, .ref 6)] [] (cW 7 w ρ) 0 0
  refine R_ob (by decide +kernel : segB 3 true prog_5_method_1_code 0 [(.aload_n 0, 1, 0, 0, 0, 0), (.invokespecial 3, 3, 0, 4, 0, 0)] = true) ?_
  refine R_seg [(.aload_n 0, 1, 0, 0, 0, 0), (.iconst 5, 1, 0, 0, 0, 5), (.anewarray 9, 3, 0, 0, 0, 0), (.putfield 11, 3, 3, 0, 2, 0)] (by decide +kernel : segB 3 true prog_5_method_1_code 4 [(.aload_n 0, 1, 0, 0, 0, 0), (.iconst 5, 1, 0, 0, 0, 5), (.anewarray 9, 3, 0, 0, 0, 0), (.putfield 11, 3, 3, 0, 2, 0)] = true) (pc' := 12) (lv' := [(0, .ref 6)]) (st' := []) (S' := setR (newC (cW 7 w ρ) 16 5) 6 0 (some 7)) (kc' := 1) (ks' := 5) rfl ⟨trivial, trivial, ⟨by decide, by decide, by decide, by decide⟩, rfl, trivial⟩ ?_
  rw [cw_new rfl z0]
  have z1 := (z0.le (Nat.le_succ 7)).ref 6 0 (some 7) (by decide)
  show RU_13 (d + 1) (9, 110) Post 12 [(0, .ref 6)] [] (cW 8 w (up2 ρ 6 0 (some 7))) 1 5
  refine R_ar_bipush (k := 6) (n := 8) (m := 20) (by decide +kernel : segB 3 true prog_5_method_1_code 12 [(.aload_n 0, 1, 0, 0, 0, 0), (.bipush 20, 2, 0, 0, 0, 20), (.newarray .int, 2, 13, 0, 0, 0), (.putfield 17, 3, 3, 2, 2, 0)] = true) ⟨by decide, by decide, by decide⟩ rfl (by decide) rfl ⟨by decide, by decide⟩ z1 (fun z2 => ?_)
  refine R_ar_bipush (k := 6) (n := 9) (m := 20) (by decide +kernel : segB 3 true prog_5_method_1_code 20 [(.aload_n 0, 1, 0, 0, 0, 0), (.bipush 20, 2, 0, 0, 0, 20), (.newarray .int, 2, 13, 0, 0, 0), (.putfield 21, 3, 3, 3, 2, 0)] = true) ⟨by decide, by decide, by decide⟩ rfl (by decide) rfl ⟨by decide, by decide⟩ z2 (fun z3 => ?_)
  refine R_ar_bipush (k := 6) (n := 10) (m := 20) (by decide +kernel : segB 3 true prog_5_method_1_code 28 [(.aload_n 0, 1, 0, 0, 0, 0), (.bipush 20, 2, 0, 0, 0, 20), (.newarray .int, 2, 13, 0, 0, 0), (.putfield 24, 3, 3, 4, 2, 0)] = true) ⟨by decide, by decide, by decide⟩ rfl (by decide) rfl ⟨by decide, by decide⟩ z3 (fun z4 => ?_)
  refine R_seg [(.iconst 0, 1, 0, 0, 0, 0), (.istore_n 1, 1, 0, 0, 0, 0)] (by decide +kernel : segB 3 true prog_5_method_1_code 36 [(.iconst 0, 1, 0, 0, 0, 0), (.istore_n 1, 1, 0, 0, 0, 0)] = true) (pc' := 38) (lv' := [(1, .int 0), (0, .ref 6)]) (st' := []) (S' := cW 11 _ _) (kc' := 4) (ks' := 65) rfl ⟨trivial, by decide, trivial⟩ ?_
  refine R_seg sg_13_38 sk_13_38 (pc' := 40) (lv' := [(1, .int 0), (0, .ref 6)]) (st' := [.int 5, .int 0]) (S' := cW 11 _ _) (kc' := 4) (ks' := 65) rfl ⟨trivial, trivial, trivial⟩ ?_
  refine R_icmp ck_13_40 (fun (c : (5 : Int32) ≤ 0) => absurd c (by decide)) (fun _ => ?_)
  refine R_seg sg_13_43 sk_13_43 (pc' := 52) (lv' := [(1, .int 0), (0, .ref 6)]) (st' := [.ref 11, .ref 11, .int 0, .ref 7]) (S' := newC (cW 11 _ _) 2 9) (kc' := 5) (ks' := 74) rfl ⟨trivial, cw_ok (by decide) rfl, trivial, ⟨by decide, by decide⟩, rfl, trivial⟩ ?_
  rw [cw_new rfl z4]
  have z5 := z4.le (Nat.le_succ 11)
  refine R_spec ck_13_52 (by decide) 11 [] 0 0 rfl rfl (by decide) (by decide) (by decide) ?_
  refine cn_8_0 (d := d) z5 (fun z6 => ?_)
  refine R_aast (j := 0) (n := 5) (k := 7) ca_13_55 (cw_ok (by decide) rfl) rfl (by decide) (cw_ok (by decide) rfl) ?_
  show RU_13 (d + 1) (9, 110) Post 56 [(1, .int 0), (0, .ref 6)] [] (cW 12 _ (up2 _ 7 0 (some 11))) 5 74
  have z7 := z6.ref 7 0 (some 11) (by decide)
  refine R_seg [(.iinc 1 1, 3, 0, 0, 0, 1)] (by decide +kernel : segB 3 true prog_5_method_1_code 56 [(.iinc 1 1, 3, 0, 0, 0, 1)] = true) (pc' := 59) (lv' := [(1, .int 1), (0, .ref 6)]) (st' := []) (S' := cW 12 _ _) (kc' := 5) (ks' := 74) rfl ⟨by decide, trivial⟩ ?_
  refine R_goto ck_13_59 ?_
  refine R_seg sg_13_38 sk_13_38 (pc' := 40) (lv' := [(1, .int 1), (0, .ref 6)]) (st' := [.int 5, .int 1]) (S' := cW 12 _ _) (kc' := 5) (ks' := 74) rfl ⟨trivial, trivial, trivial⟩ ?_
  refine R_icmp ck_13_40 (fun (c : (5 : Int32) ≤ 1) => absurd c (by decide)) (fun _ => ?_)
  refine R_seg sg_13_43 sk_13_43 (pc' := 52) (lv' := [(1, .int 1), (0, .ref 6)]) (st' := [.ref 12, .ref 12, .int 1, .ref 7]) (S' := newC (cW 12 _ _) 2 9) (kc' := 6) (ks' := 83) rfl ⟨trivial, cw_ok (by decide) rfl, trivial, ⟨by decide, by decide⟩, rfl, trivial⟩ ?_
  rw [cw_new rfl z7]
  have z8 := z7.le (Nat.le_succ 12)
  refine R_spec ck_13_52 (by decide) 12 [] 0 0 rfl rfl (by decide) (by decide) (by decide) ?_
  refine cn_8_1 (d := d) z8 (fun z9 => ?_)
  refine R_aast (j := 1) (n := 5) (k := 7) ca_13_55 (cw_ok (by decide) rfl) rfl (by decide) (cw_ok (by decide) rfl) ?_
  show RU_13 (d + 1) (9, 110) Post 56 [(1, .int 1), (0, .ref 6)] [] (cW 13 _ (up2 _ 7 1 (some 12))) 6 83
  have z10 := z9.ref 7 1 (some 12) (by decide)
  refine R_seg [(.iinc 1 1, 3, 0, 0, 0, 1)] (by decide +kernel : segB 3 true prog_5_method_1_code 56 [(.iinc 1 1, 3, 0, 0, 0, 1)] = true) (pc' := 59) (lv' := [(1, .int 2), (0, .ref 6)]) (st' := []) (S' := cW 13 _ _) (kc' := 6) (ks' := 83) rfl ⟨by decide, trivial⟩ ?_
  refine R_goto ck_13_59 ?_
  refine R_seg sg_13_38 sk_13_38 (pc' := 40) (lv' := [(1, .int 2), (0, .ref 6)]) (st' := [.int 5, .int 2]) (S' := cW 13 _ _) (kc' := 6) (ks' := 83) rfl ⟨trivial, trivial, trivial⟩ ?_
  refine R_icmp ck_13_40 (fun (c : (5 : Int32) ≤ 2) => absurd c (by decide)) (fun _ => ?_)
  refine R_seg sg_13_43 sk_13_43 (pc' := 52) (lv' := [(1, .int 2), (0, .ref 6)]) (st' := [.ref 13, .ref 13, .int 2, .ref 7]) (S' := newC (cW 13 _ _) 2 9) (kc' := 7) (ks' := 92) rfl ⟨trivial, cw_ok (by decide) rfl, trivial, ⟨by decide, by decide⟩, rfl, trivial⟩ ?_
  rw [cw_new rfl z10]
  have z11 := z10.le (Nat.le_succ 13)
  refine R_spec ck_13_52 (by decide) 13 [] 0 0 rfl rfl (by decide) (by decide) (by decide) ?_
  refine cn_8_2 (d := d) z11 (fun z12 => ?_)
  refine R_aast (j := 2) (n := 5) (k := 7) ca_13_55 (cw_ok (by decide) rfl) rfl (by decide) (cw_ok (by decide) rfl) ?_
  show RU_13 (d + 1) (9, 110) Post 56 [(1, .int 2), (0, .ref 6)] [] (cW 14 _ (up2 _ 7 2 (some 13))) 7 92
  have z13 := z12.ref 7 2 (some 13) (by decide)
  refine R_seg [(.iinc 1 1, 3, 0, 0, 0, 1)] (by decide +kernel : segB 3 true prog_5_method_1_code 56 [(.iinc 1 1, 3, 0, 0, 0, 1)] = true) (pc' := 59) (lv' := [(1, .int 3), (0, .ref 6)]) (st' := []) (S' := cW 14 _ _) (kc' := 7) (ks' := 92) rfl ⟨by decide, trivial⟩ ?_
  refine R_goto ck_13_59 ?_
  refine R_seg sg_13_38 sk_13_38 (pc' := 40) (lv' := [(1, .int 3), (0, .ref 6)]) (st' := [.int 5, .int 3]) (S' := cW 14 _ _) (kc' := 7) (ks' := 92) rfl ⟨trivial, trivial, trivial⟩ ?_
  refine R_icmp ck_13_40 (fun (c : (5 : Int32) ≤ 3) => absurd c (by decide)) (fun _ => ?_)
  refine R_seg sg_13_43 sk_13_43 (pc' := 52) (lv' := [(1, .int 3), (0, .ref 6)]) (st' := [.ref 14, .ref 14, .int 3, .ref 7]) (S' := newC (cW 14 _ _) 2 9) (kc' := 8) (ks' := 101) rfl ⟨trivial, cw_ok (by decide) rfl, trivial, ⟨by decide, by decide⟩, rfl, trivial⟩ ?_
  rw [cw_new rfl z13]
  have z14 := z13.le (Nat.le_succ 14)
  refine R_spec ck_13_52 (by decide) 14 [] 0 0 rfl rfl (by decide) (by decide) (by decide) ?_
  refine cn_8_3 (d := d) z14 (fun z15 => ?_)
  refine R_aast (j := 3) (n := 5) (k := 7) ca_13_55 (cw_ok (by decide) rfl) rfl (by decide) (cw_ok (by decide) rfl) ?_
  show RU_13 (d + 1) (9, 110) Post 56 [(1, .int 3), (0, .ref 6)] [] (cW 15 _ (up2 _ 7 3 (some 14))) 8 101
  have z16 := z15.ref 7 3 (some 14) (by decide)
  refine R_seg [(.iinc 1 1, 3, 0, 0, 0, 1)] (by decide +kernel : segB 3 true prog_5_method_1_code 56 [(.iinc 1 1, 3, 0, 0, 0, 1)] = true) (pc' := 59) (lv' := [(1, .int 4), (0, .ref 6)]) (st' := []) (S' := cW 15 _ _) (kc' := 8) (ks' := 101) rfl ⟨by decide, trivial⟩ ?_
  refine R_goto ck_13_59 ?_
  refine R_seg sg_13_38 sk_13_38 (pc' := 40) (lv' := [(1, .int 4), (0, .ref 6)]) (st' := [.int 5, .int 4]) (S' := cW 15 _ _) (kc' := 8) (ks' := 101) rfl ⟨trivial, trivial, trivial⟩ ?_
  refine R_icmp ck_13_40 (fun (c : (5 : Int32) ≤ 4) => absurd c (by decide)) (fun _ => ?_)
  refine R_seg sg_13_43 sk_13_43 (pc' := 52) (lv' := [(1, .int 4), (0, .ref 6)]) (st' := [.ref 15, .ref 15, .int 4, .ref 7]) (S' := newC (cW 15 _ _) 2 9) (kc' := 9) (ks' := 110) rfl ⟨trivial, cw_ok (by decide) rfl, trivial, ⟨by decide, by decide⟩, rfl, trivial⟩ ?_
  rw [cw_new rfl z16]
  have z17 := z16.le (Nat.le_succ 15)
  refine R_spec ck_13_52 (by decide) 15 [] 0 0 rfl rfl (by decide) (by decide) (by decide) ?_
  refine cn_8_4 (d := d) z17 (fun z18 => ?_)
  refine R_aast (j := 4) (n := 5) (k := 7) ca_13_55 (cw_ok (by decide) rfl) rfl (by decide) (cw_ok (by decide) rfl) ?_
  show RU_13 (d + 1) (9, 110) Post 56 [(1, .int 4), (0, .ref 6)] [] (cW 16 _ (up2 _ 7 4 (some 15))) 9 110
  have z19 := z18.ref 7 4 (some 15) (by decide)
  refine R_seg [(.iinc 1 1, 3, 0, 0, 0, 1)] (by decide +kernel : segB 3 true prog_5_method_1_code 56 [(.iinc 1 1, 3, 0, 0, 0, 1)] = true) (pc' := 59) (lv' := [(1, .int 5), (0, .ref 6)]) (st' := []) (S' := cW 16 _ _) (kc' := 9) (ks' := 110) rfl ⟨by decide, trivial⟩ ?_
  refine R_goto ck_13_59 ?_
  refine R_seg sg_13_38 sk_13_38 (pc' := 40) (lv' := [(1, .int 5), (0, .ref 6)]) (st' := [.int 5, .int 5]) (S' := cW 16 _ _) (kc' := 9) (ks' := 110) rfl ⟨trivial, trivial, trivial⟩ ?_
  refine R_icmp ck_13_40 (fun _ => ?_) (fun c => absurd (show (5 : Int32) ≤ 5 by decide) c)
  exact R_ret ck_13_62 rfl (hp z19)
def r_38 (ρ : RHO) : RHO := (up2 (up2 (up2 (up2 (up2 (up2 (up2 (up2 (up2 (up2 (up2 (up2 (up2 ρ 16 0 (some 17)) 16 1 (some 18)) 16 2 (some 19)) 16 3 (some 20)) 16 4 (some 21)) 16 5 (some 22)) 16 6 (some 23)) 16 7 (some 24)) 16 8 (some 25)) 16 9 (some 26)) 16 10 (some 27)) 16 11 (some 28)) 16 12 (some 29))
def w_38 (w : WW) : WW := (flw (flw (flw w 18 0 6 1) 22 0 24 5) 27 0 768 N1)
set_option maxHeartbeats 4000000 in
theorem cn_38 {d : Nat} {w : WW} {ρ : RHO} {Post : Option Value → Sto → Prop} (z0 : ZR 17 w ρ) (hp : ZR 30 (w_38 w) (r_38 ρ) → Post none (cW 30 (w_38 w) (r_38 ρ))) : Ex (d + 1 + 1) 38 [.ref 16] (cW 17 w ρ) 13 3570 Post := by
  refine en_38 (Nat.le_of_ble_eq_true rfl) ?_
  show RU_38 (d + 1) (13, 3570) Post 0 [(0, .ref 16)] [] (cW 17 w ρ) 0 0
  refine R_ob (by decide +kernel : segB 6 true prog_8_method_1_code 0 [(.aload_n 0, 1, 0, 0, 0, 0), (.invokespecial 3, 3, 0, 4, 0, 0)] = true) ?_
  refine R_ar_bipush (k := 16) (n := 17) (m := 6) (by decide +kernel : segB 6 true prog_8_method_1_code 4 [(.aload_n 0, 1, 0, 0, 0, 0), (.bipush 6, 2, 0, 0, 0, 6), (.newarray .int, 2, 13, 0, 0, 0), (.putfield 9, 3, 6, 0, 2, 0)] = true) ⟨by decide, by decide, by decide⟩ rfl (by decide) rfl ⟨by decide, by decide⟩ z0 (fun z1 => ?_)
  refine R_ar_bipush (k := 16) (n := 18) (m := 6) (by decide +kernel : segB 6 true prog_8_method_1_code 12 [(.aload_n 0, 1, 0, 0, 0, 0), (.bipush 6, 2, 0, 0, 0, 6), (.newarray .int, 2, 13, 0, 0, 0), (.putfield 15, 3, 6, 1, 2, 0)] = true) ⟨by decide, by decide, by decide⟩ rfl (by decide) rfl ⟨by decide, by decide⟩ z1 (fun z2 => ?_)
  refine R_ar_bipush (k := 16) (n := 19) (m := 6) (by decide +kernel : segB 6 true prog_8_method_1_code 20 [(.aload_n 0, 1, 0, 0, 0, 0), (.bipush 6, 2, 0, 0, 0, 6), (.newarray .int, 2, 13, 0, 0, 0), (.putfield 18, 3, 6, 2, 2, 0)] = true) ⟨by decide, by decide, by decide⟩ rfl (by decide) rfl ⟨by decide, by decide⟩ z2 (fun z3 => ?_)
  refine R_ar_bipush (k := 16) (n := 20) (m := 24) (by decide +kernel : segB 6 true prog_8_method_1_code 28 [(.aload_n 0, 1, 0, 0, 0, 0), (.bipush 24, 2, 0, 0, 0, 24), (.newarray .int, 2, 13, 0, 0, 0), (.putfield 21, 3, 6, 3, 2, 0)] = true) ⟨by decide, by decide, by decide⟩ rfl (by decide) rfl ⟨by decide, by decide⟩ z3 (fun z4 => ?_)
  refine R_ar_bipush (k := 16) (n := 21) (m := 24) (by decide +kernel : segB 6 true prog_8_method_1_code 36 [(.aload_n 0, 1, 0, 0, 0, 0), (.bipush 24, 2, 0, 0, 0, 24), (.newarray .int, 2, 13, 0, 0, 0), (.putfield 24, 3, 6, 4, 2, 0)] = true) ⟨by decide, by decide, by decide⟩ rfl (by decide) rfl ⟨by decide, by decide⟩ z4 (fun z5 => ?_)
  refine R_ar_bipush (k := 16) (n := 22) (m := 24) (by decide +kernel : segB 6 true prog_8_method_1_code 44 [(.aload_n 0, 1, 0, 0, 0, 0), (.bipush 24, 2, 0, 0, 0, 24), (.newarray .int, 2, 13, 0, 0, 0), (.putfield 27, 3, 6, 5, 2, 0)] = true) ⟨by decide, by decide, by decide⟩ rfl (by decide) rfl ⟨by decide, by decide⟩ z5 (fun z6 => ?_)
  refine R_ar_bipush (k := 16) (n := 23) (m := 24) (by decide +kernel : segB 6 true prog_8_method_1_code 52 [(.aload_n 0, 1, 0, 0, 0, 0), (.bipush 24, 2, 0, 0, 0, 24), (.newarray .boolean, 2, 15, 0, 0, 0), (.putfield 30, 3, 6, 6, 2, 0)] = true) ⟨by decide, by decide, by decide⟩ rfl (by decide) rfl ⟨by decide, by decide⟩ z6 (fun z7 => ?_)
  refine R_ar_sipush (k := 16) (n := 24) (m := 192) (by decide +kernel : segB 6 true prog_8_method_1_code 60 [(.aload_n 0, 1, 0, 0, 0, 0), (.sipush 192, 3, 0, 0, 0, 192), (.newarray .boolean, 2, 15, 0, 0, 0), (.putfield 34, 3, 6, 7, 2, 0)] = true) ⟨by decide, by decide, by decide⟩ rfl (by decide) rfl ⟨by decide, by decide⟩ z7 (fun z8 => ?_)
  refine R_ar_sipush (k := 16) (n := 25) (m := 192) (by decide +kernel : segB 6 true prog_8_method_1_code 69 [(.aload_n 0, 1, 0, 0, 0, 0), (.sipush 192, 3, 0, 0, 0, 192), (.newarray .int, 2, 13, 0, 0, 0), (.putfield 37, 3, 6, 8, 2, 0)] = true) ⟨by decide, by decide, by decide⟩ rfl (by decide) rfl ⟨by decide, by decide⟩ z8 (fun z9 => ?_)
  refine R_ar_sipush (k := 16) (n := 26) (m := 768) (by decide +kernel : segB 6 true prog_8_method_1_code 78 [(.aload_n 0, 1, 0, 0, 0, 0), (.sipush 768, 3, 0, 0, 0, 768), (.newarray .int, 2, 13, 0, 0, 0), (.putfield 40, 3, 6, 9, 2, 0)] = true) ⟨by decide, by decide, by decide⟩ rfl (by decide) rfl ⟨by decide, by decide⟩ z9 (fun z10 => ?_)
  refine R_ar_sipush (k := 16) (n := 27) (m := 768) (by decide +kernel : segB 6 true prog_8_method_1_code 87 [(.aload_n 0, 1, 0, 0, 0, 0), (.sipush 768, 3, 0, 0, 0, 768), (.newarray .int, 2, 13, 0, 0, 0), (.putfield 43, 3, 6, 10, 2, 0)] = true) ⟨by decide, by decide, by decide⟩ rfl (by decide) rfl ⟨by decide, by decide⟩ z10 (fun z11 => ?_)
  refine R_ar_sipush (k := 16) (n := 28) (m := 768) (by decide +kernel : segB 6 true prog_8_method_1_code 96 [(.aload_n 0, 1, 0, 0, 0, 0), (.sipush 768, 3, 0, 0, 0, 768), (.newarray .int, 2, 13, 0, 0, 0), (.putfield 46, 3, 6, 11, 2, 0)] = true) ⟨by decide, by decide, by decide⟩ rfl (by decide) rfl ⟨by decide, by decide⟩ z11 (fun z12 => ?_)
  refine R_ar_sipush (k := 16) (n := 29) (m := 768) (by decide +kernel : segB 6 true prog_8_method_1_code 105 [(.aload_n 0, 1, 0, 0, 0, 0), (.sipush 768, 3, 0, 0, 0, 768), (.newarray .int, 2, 13, 0, 0, 0), (.putfield 49, 3, 6, 12, 2, 0)] = true) ⟨by decide, by decide, by decide⟩ rfl (by decide) rfl ⟨by decide, by decide⟩ z12 (fun z13 => ?_)
  refine R_seg [(.aload_n 0, 1, 0, 0, 0, 0), (.getfield 15, 3, 6, 1, 2, 0), (.iconst 1, 1, 0, 0, 0, 1)] (by decide +kernel : segB 6 true prog_8_method_1_code 114 [(.aload_n 0, 1, 0, 0, 0, 0), (.getfield 15, 3, 6, 1, 2, 0), (.iconst 1, 1, 0, 0, 0, 1)] = true) (pc' := 119) (lv' := [(0, .ref 16)]) (st' := [.int (1), .ref 18]) (S' := cW 30 _ _) (kc' := 13) (ks' := 3570) rfl ⟨trivial, cw_ok (by decide) rfl, trivial, trivial⟩ ?_
  refine R_stat ck_38_119 (by decide) [.ref 18, .int (1)] 0 0 rfl rfl (by decide) (by decide) (by decide) ?_
  refine x_130 (d := d) (z := 6) (cw_ok (by decide) rfl) (by decide) ?_
  rw [cw_fl (v := 1) (z := 1) rfl]
  have z14 := z13.fl 18 0 6 1 (by decide)
  show RU_38 (d + 1) _ _ 122 [(0, .ref 16)] [] _ 13 3570
  refine R_seg [(.aload_n 0, 1, 0, 0, 0, 0), (.getfield 27, 3, 6, 5, 2, 0), (.iconst 5, 1, 0, 0, 0, 5)] (by decide +kernel : segB 6 true prog_8_method_1_code 122 [(.aload_n 0, 1, 0, 0, 0, 0), (.getfield 27, 3, 6, 5, 2, 0), (.iconst 5, 1, 0, 0, 0, 5)] = true) (pc' := 127) (lv' := [(0, .ref 16)]) (st' := [.int (5), .ref 22]) (S' := cW 30 _ _) (kc' := 13) (ks' := 3570) rfl ⟨trivial, cw_ok (by decide) rfl, trivial, trivial⟩ ?_
  refine R_stat ck_38_127 (by decide) [.ref 22, .int (5)] 0 0 rfl rfl (by decide) (by decide) (by decide) ?_
  refine x_130 (d := d) (z := 24) (cw_ok (by decide) rfl) (by decide) ?_
  rw [cw_fl (v := 5) (z := 5) rfl]
  have z15 := z14.fl 22 0 24 5 (by decide)
  show RU_38 (d + 1) _ _ 130 [(0, .ref 16)] [] _ 13 3570
  refine R_seg [(.aload_n 0, 1, 0, 0, 0, 0), (.getfield 43, 3, 6, 10, 2, 0), (.iconst (-1), 1, 0, 0, 0, -1)] (by decide +kernel : segB 6 true prog_8_method_1_code 130 [(.aload_n 0, 1, 0, 0, 0, 0), (.getfield 43, 3, 6, 10, 2, 0), (.iconst (-1), 1, 0, 0, 0, -1)] = true) (pc' := 135) (lv' := [(0, .ref 16)]) (st' := [.int (-1), .ref 27]) (S' := cW 30 _ _) (kc' := 13) (ks' := 3570) rfl ⟨trivial, cw_ok (by decide) rfl, trivial, trivial⟩ ?_
  refine R_stat ck_38_135 (by decide) [.ref 27, .int (-1)] 0 0 rfl rfl (by decide) (by decide) (by decide) ?_
  refine x_130 (d := d) (z := 768) (cw_ok (by decide) rfl) (by decide) ?_
  rw [cw_fl (v := -1) (z := N1) rfl]
  have z16 := z15.fl 27 0 768 N1 (by decide)
  show RU_38 (d + 1) _ _ 138 [(0, .ref 16)] [] _ 13 3570
  exact R_ret ck_38_138 rfl (hp z16)
def r_43 (ρ : RHO) : RHO := (up2 ρ 30 0 (some 31))
def w_43 (w : WW) : WW := w
set_option maxHeartbeats 4000000 in
theorem cn_43 {d : Nat} {w : WW} {ρ : RHO} {Post : Option Value → Sto → Prop} (z0 : ZR 31 w ρ) (hp : ZR 32 (w_43 w) (r_43 ρ) → Post none (cW 32 (w_43 w) (r_43 ρ))) : Ex (d + 1) 43 [.ref 30] (cW 31 w ρ) 1 200 Post := by
  refine en_43 (Nat.le_of_ble_eq_true rfl) ?_
  show RU_43 (d) (1, 200) Post 0 [(0, .ref 30)] [] (cW 31 w ρ) 0 0
  refine R_ob (by decide +kernel : segB 7 true prog_9_method_1_code 0 [(.aload_n 0, 1, 0, 0, 0, 0), (.invokespecial 3, 3, 0, 4, 0, 0)] = true) ?_
  refine R_ar_sipush (k := 30) (n := 31) (m := 200) (by decide +kernel : segB 7 true prog_9_method_1_code 4 [(.aload_n 0, 1, 0, 0, 0, 0), (.sipush 200, 3, 0, 0, 0, 200), (.newarray .int, 2, 13, 0, 0, 0), (.putfield 9, 3, 7, 0, 2, 0)] = true) ⟨by decide, by decide, by decide⟩ rfl (by decide) rfl ⟨by decide, by decide⟩ z0 (fun z1 => ?_)
  exact R_ret ck_43_13 rfl (hp z1)
def r_51 (ρ : RHO) : RHO := (up2 (up2 (up2 (up2 (up2 (up2 (up2 ρ 32 0 (some 33)) 32 1 (some 34)) 32 2 (some 35)) 32 3 (some 36)) 32 4 (some 37)) 32 5 (some 38)) 32 6 (some 39))
def w_51 (w : WW) : WW := w
set_option maxHeartbeats 4000000 in
theorem cn_51 {d : Nat} {w : WW} {ρ : RHO} {Post : Option Value → Sto → Prop} (z0 : ZR 33 w ρ) (hp : ZR 40 (w_51 w) (r_51 ρ) → Post none (cW 40 (w_51 w) (r_51 ρ))) : Ex (d + 1) 51 [.ref 32] (cW 33 w ρ) 7 340 Post := by
  refine en_51 (Nat.le_of_ble_eq_true rfl) ?_
  show RU_51 (d) (7, 340) Post 0 [(0, .ref 32)] [] (cW 33 w ρ) 0 0
  refine R_ob (by decide +kernel : segB 9 true prog_11_method_1_code 0 [(.aload_n 0, 1, 0, 0, 0, 0), (.invokespecial 3, 3, 0, 4, 0, 0)] = true) ?_
  refine R_ar_bipush (k := 32) (n := 33) (m := 20) (by decide +kernel : segB 9 true prog_11_method_1_code 4 [(.aload_n 0, 1, 0, 0, 0, 0), (.bipush 20, 2, 0, 0, 0, 20), (.newarray .int, 2, 13, 0, 0, 0), (.putfield 9, 3, 9, 0, 2, 0)] = true) ⟨by decide, by decide, by decide⟩ rfl (by decide) rfl ⟨by decide, by decide⟩ z0 (fun z1 => ?_)
  refine R_ar_bipush (k := 32) (n := 34) (m := 20) (by decide +kernel : segB 9 true prog_11_method_1_code 12 [(.aload_n 0, 1, 0, 0, 0, 0), (.bipush 20, 2, 0, 0, 0, 20), (.newarray .int, 2, 13, 0, 0, 0), (.putfield 15, 3, 9, 1, 2, 0)] = true) ⟨by decide, by decide, by decide⟩ rfl (by decide) rfl ⟨by decide, by decide⟩ z1 (fun z2 => ?_)
  refine R_ar_bipush (k := 32) (n := 35) (m := 20) (by decide +kernel : segB 9 true prog_11_method_1_code 20 [(.aload_n 0, 1, 0, 0, 0, 0), (.bipush 20, 2, 0, 0, 0, 20), (.newarray .int, 2, 13, 0, 0, 0), (.putfield 18, 3, 9, 2, 2, 0)] = true) ⟨by decide, by decide, by decide⟩ rfl (by decide) rfl ⟨by decide, by decide⟩ z2 (fun z3 => ?_)
  refine R_ar_bipush (k := 32) (n := 36) (m := 20) (by decide +kernel : segB 9 true prog_11_method_1_code 28 [(.aload_n 0, 1, 0, 0, 0, 0), (.bipush 20, 2, 0, 0, 0, 20), (.newarray .int, 2, 13, 0, 0, 0), (.putfield 21, 3, 9, 3, 2, 0)] = true) ⟨by decide, by decide, by decide⟩ rfl (by decide) rfl ⟨by decide, by decide⟩ z3 (fun z4 => ?_)
  refine R_ar_bipush (k := 32) (n := 37) (m := 20) (by decide +kernel : segB 9 true prog_11_method_1_code 36 [(.aload_n 0, 1, 0, 0, 0, 0), (.bipush 20, 2, 0, 0, 0, 20), (.newarray .int, 2, 13, 0, 0, 0), (.putfield 24, 3, 9, 4, 2, 0)] = true) ⟨by decide, by decide, by decide⟩ rfl (by decide) rfl ⟨by decide, by decide⟩ z4 (fun z5 => ?_)
  refine R_ar_bipush (k := 32) (n := 38) (m := 120) (by decide +kernel : segB 9 true prog_11_method_1_code 44 [(.aload_n 0, 1, 0, 0, 0, 0), (.bipush 120, 2, 0, 0, 0, 120), (.newarray .int, 2, 13, 0, 0, 0), (.putfield 27, 3, 9, 5, 2, 0)] = true) ⟨by decide, by decide, by decide⟩ rfl (by decide) rfl ⟨by decide, by decide⟩ z5 (fun z6 => ?_)
  refine R_ar_bipush (k := 32) (n := 39) (m := 120) (by decide +kernel : segB 9 true prog_11_method_1_code 52 [(.aload_n 0, 1, 0, 0, 0, 0), (.bipush 120, 2, 0, 0, 0, 120), (.newarray .int, 2, 13, 0, 0, 0), (.putfield 30, 3, 9, 6, 2, 0)] = true) ⟨by decide, by decide, by decide⟩ rfl (by decide) rfl ⟨by decide, by decide⟩ z6 (fun z7 => ?_)
  exact R_ret ck_51_60 rfl (hp z7)
def r_16 (ρ : RHO) : RHO := (up2 (up2 (up2 ρ 40 2 (some 41)) 40 0 (some 32)) 40 1 (some 16))
def w_16 (w : WW) : WW := w
set_option maxHeartbeats 4000000 in
theorem cn_16 {d : Nat} {w : WW} {ρ : RHO} {Post : Option Value → Sto → Prop} (z0 : ZR 41 w ρ) (hp : ZR 42 (w_16 w) (r_16 ρ) → Post none (cW 42 (w_16 w) (r_16 ρ))) : Ex (d + 1) 16 [.ref 40, .ref 32, .ref 16] (cW 41 w ρ) 1 5 Post := by
  refine en_16 (Nat.le_of_ble_eq_true rfl) ?_
  show RU_16 (d) (1, 5) Post 0 [(0, .ref 40), (1, .ref 32), (2, .ref 16)] [] (cW 41 w ρ) 0 0
  refine R_ob (by decide +kernel : segB 4 true prog_6_method_1_code 0 [(.aload_n 0, 1, 0, 0, 0, 0), (.invokespecial 3, 3, 0, 4, 0, 0)] = true) ?_
  refine R_ar_iconst (k := 40) (n := 41) (m := 5) (by decide +kernel : segB 4 true prog_6_method_1_code 4 [(.aload_n 0, 1, 0, 0, 0, 0), (.iconst 5, 1, 0, 0, 0, 5), (.newarray .int, 2, 13, 0, 0, 0), (.putfield 9, 3, 4, 2, 2, 0)] = true) ⟨by decide, by decide, by decide⟩ rfl (by decide) rfl ⟨by decide, by decide⟩ z0 (fun z1 => ?_)
  refine R_seg [(.aload_n 0, 1, 0, 0, 0, 0), (.aload_n 1, 1, 0, 0, 0, 0), (.putfield 15, 3, 4, 0, 2, 0)] (by decide +kernel : segB 4 true prog_6_method_1_code 11 [(.aload_n 0, 1, 0, 0, 0, 0), (.aload_n 1, 1, 0, 0, 0, 0), (.putfield 15, 3, 4, 0, 2, 0)] = true) (pc' := 16) (lv' := [(0, .ref 40), (1, .ref 32), (2, .ref 16)]) (st' := []) (S' := cW 42 _ (up2 _ 40 0 (some 32))) (kc' := 1) (ks' := 5) rfl ⟨trivial, trivial, cw_ok (by decide) rfl, trivial⟩ ?_
  have z2 := z1.ref 40 0 (some 32) (by decide)
  refine R_seg [(.aload_n 0, 1, 0, 0, 0, 0), (.aload_n 2, 1, 0, 0, 0, 0), (.putfield 19, 3, 4, 1, 2, 0)] (by decide +kernel : segB 4 true prog_6_method_1_code 16 [(.aload_n 0, 1, 0, 0, 0, 0), (.aload_n 2, 1, 0, 0, 0, 0), (.putfield 19, 3, 4, 1, 2, 0)] = true) (pc' := 21) (lv' := [(0, .ref 40), (1, .ref 32), (2, .ref 16)]) (st' := []) (S' := cW 42 _ (up2 _ 40 1 (some 16))) (kc' := 1) (ks' := 5) rfl ⟨trivial, trivial, cw_ok (by decide) rfl, trivial⟩ ?_
  have z3 := z2.ref 40 1 (some 16) (by decide)
  exact R_ret ck_16_21 rfl (hp z3)
def r_0 (ρ : RHO) : RHO := (up2 (up2 (up2 (up2 (up2 (up2 (up2 ρ 42 0 (some 43)) 42 1 (some 44)) 42 2 (some 45)) 42 3 (some 46)) 42 4 (some 47)) 42 7 (some 48)) 42 8 (some 49))
def w_0 (w : WW) : WW := w
set_option maxHeartbeats 4000000 in
theorem cn_0 {d : Nat} {w : WW} {ρ : RHO} {Post : Option Value → Sto → Prop} (z0 : ZR 43 w ρ) (hp : ZR 50 (w_0 w) (r_0 ρ) → Post none (cW 50 (w_0 w) (r_0 ρ))) : Ex (d + 1) 0 [.ref 42] (cW 43 w ρ) 7 1344 Post := by
  refine en_0 (Nat.le_of_ble_eq_true rfl) ?_
  show RU_0 (d) (7, 1344) Post 0 [(0, .ref 42)] [] (cW 43 w ρ) 0 0
  refine R_ob (by decide +kernel : segB 0 true prog_2_method_1_code 0 [(.aload_n 0, 1, 0, 0, 0, 0), (.invokespecial 3, 3, 0, 4, 0, 0)] = true) ?_
  refine R_ar_sipush (k := 42) (n := 43) (m := 192) (by decide +kernel : segB 0 true prog_2_method_1_code 4 [(.aload_n 0, 1, 0, 0, 0, 0), (.sipush 192, 3, 0, 0, 0, 192), (.newarray .int, 2, 13, 0, 0, 0), (.putfield 9, 3, 0, 0, 2, 0)] = true) ⟨by decide, by decide, by decide⟩ rfl (by decide) rfl ⟨by decide, by decide⟩ z0 (fun z1 => ?_)
  refine R_ar_sipush (k := 42) (n := 44) (m := 192) (by decide +kernel : segB 0 true prog_2_method_1_code 13 [(.aload_n 0, 1, 0, 0, 0, 0), (.sipush 192, 3, 0, 0, 0, 192), (.newarray .int, 2, 13, 0, 0, 0), (.putfield 15, 3, 0, 1, 2, 0)] = true) ⟨by decide, by decide, by decide⟩ rfl (by decide) rfl ⟨by decide, by decide⟩ z1 (fun z2 => ?_)
  refine R_ar_sipush (k := 42) (n := 45) (m := 192) (by decide +kernel : segB 0 true prog_2_method_1_code 22 [(.aload_n 0, 1, 0, 0, 0, 0), (.sipush 192, 3, 0, 0, 0, 192), (.newarray .int, 2, 13, 0, 0, 0), (.putfield 18, 3, 0, 2, 2, 0)] = true) ⟨by decide, by decide, by decide⟩ rfl (by decide) rfl ⟨by decide, by decide⟩ z2 (fun z3 => ?_)
  refine R_ar_sipush (k := 42) (n := 46) (m := 192) (by decide +kernel : segB 0 true prog_2_method_1_code 31 [(.aload_n 0, 1, 0, 0, 0, 0), (.sipush 192, 3, 0, 0, 0, 192), (.newarray .int, 2, 13, 0, 0, 0), (.putfield 21, 3, 0, 3, 2, 0)] = true) ⟨by decide, by decide, by decide⟩ rfl (by decide) rfl ⟨by decide, by decide⟩ z3 (fun z4 => ?_)
  refine R_ar_sipush (k := 42) (n := 47) (m := 192) (by decide +kernel : segB 0 true prog_2_method_1_code 40 [(.aload_n 0, 1, 0, 0, 0, 0), (.sipush 192, 3, 0, 0, 0, 192), (.newarray .int, 2, 13, 0, 0, 0), (.putfield 24, 3, 0, 4, 2, 0)] = true) ⟨by decide, by decide, by decide⟩ rfl (by decide) rfl ⟨by decide, by decide⟩ z4 (fun z5 => ?_)
  refine R_ar_sipush (k := 42) (n := 48) (m := 192) (by decide +kernel : segB 0 true prog_2_method_1_code 49 [(.aload_n 0, 1, 0, 0, 0, 0), (.sipush 192, 3, 0, 0, 0, 192), (.newarray .int, 2, 13, 0, 0, 0), (.putfield 27, 3, 0, 7, 2, 0)] = true) ⟨by decide, by decide, by decide⟩ rfl (by decide) rfl ⟨by decide, by decide⟩ z5 (fun z6 => ?_)
  refine R_ar_sipush (k := 42) (n := 49) (m := 192) (by decide +kernel : segB 0 true prog_2_method_1_code 58 [(.aload_n 0, 1, 0, 0, 0, 0), (.sipush 192, 3, 0, 0, 0, 192), (.newarray .int, 2, 13, 0, 0, 0), (.putfield 30, 3, 0, 8, 2, 0)] = true) ⟨by decide, by decide, by decide⟩ rfl (by decide) rfl ⟨by decide, by decide⟩ z6 (fun z7 => ?_)
  exact R_ret ck_0_67 rfl (hp z7)
def r_22 (ρ : RHO) : RHO := (up2 (up2 (up2 (up2 (up2 (up2 (up2 (up2 (up2 ρ 50 0 (some 51)) 50 7 (some 52)) 50 8 (some 53)) 50 10 (some 54)) 50 2 (some 1)) 50 3 (some 6)) 50 4 (some 16)) 50 5 (some 32)) 50 6 (some 42))
def w_22 (w : WW) : WW := w
set_option maxHeartbeats 4000000 in
theorem cn_22 {d : Nat} {w : WW} {ρ : RHO} {Post : Option Value → Sto → Prop} (z0 : ZR 51 w ρ) (hp : ZR 55 (w_22 w) (r_22 ρ) → Post none (cW 55 (w_22 w) (r_22 ρ))) : Ex (d + 1) 22 [.ref 50, .ref 1, .ref 6, .ref 16, .ref 32, .ref 42] (cW 51 w ρ) 4 581 Post := by
  refine en_22 (Nat.le_of_ble_eq_true rfl) ?_
  show RU_22 (d) (4, 581) Post 0 [(0, .ref 50), (1, .ref 1), (2, .ref 6), (3, .ref 16), (4, .ref 32), (5, .ref 42)] [] (cW 51 w ρ) 0 0
  refine R_ob (by decide +kernel : segB 5 true prog_7_method_1_code 0 [(.aload_n 0, 1, 0, 0, 0, 0), (.invokespecial 3, 3, 0, 4, 0, 0)] = true) ?_
  refine R_ar_sipush (k := 50) (n := 51) (m := 192) (by decide +kernel : segB 5 true prog_7_method_1_code 4 [(.aload_n 0, 1, 0, 0, 0, 0), (.sipush 192, 3, 0, 0, 0, 192), (.newarray .int, 2, 13, 0, 0, 0), (.putfield 9, 3, 5, 0, 2, 0)] = true) ⟨by decide, by decide, by decide⟩ rfl (by decide) rfl ⟨by decide, by decide⟩ z0 (fun z1 => ?_)
  refine R_ar_sipush (k := 50) (n := 52) (m := 192) (by decide +kernel : segB 5 true prog_7_method_1_code 13 [(.aload_n 0, 1, 0, 0, 0, 0), (.sipush 192, 3, 0, 0, 0, 192), (.newarray .int, 2, 13, 0, 0, 0), (.putfield 15, 3, 5, 7, 2, 0)] = true) ⟨by decide, by decide, by decide⟩ rfl (by decide) rfl ⟨by decide, by decide⟩ z1 (fun z2 => ?_)
  refine R_ar_sipush (k := 50) (n := 53) (m := 192) (by decide +kernel : segB 5 true prog_7_method_1_code 22 [(.aload_n 0, 1, 0, 0, 0, 0), (.sipush 192, 3, 0, 0, 0, 192), (.newarray .int, 2, 13, 0, 0, 0), (.putfield 18, 3, 5, 8, 2, 0)] = true) ⟨by decide, by decide, by decide⟩ rfl (by decide) rfl ⟨by decide, by decide⟩ z2 (fun z3 => ?_)
  refine R_ar_iconst (k := 50) (n := 54) (m := 5) (by decide +kernel : segB 5 true prog_7_method_1_code 31 [(.aload_n 0, 1, 0, 0, 0, 0), (.iconst 5, 1, 0, 0, 0, 5), (.newarray .int, 2, 13, 0, 0, 0), (.putfield 21, 3, 5, 10, 2, 0)] = true) ⟨by decide, by decide, by decide⟩ rfl (by decide) rfl ⟨by decide, by decide⟩ z3 (fun z4 => ?_)
  refine R_seg [(.aload_n 0, 1, 0, 0, 0, 0), (.aload_n 1, 1, 0, 0, 0, 0), (.putfield 24, 3, 5, 2, 2, 0)] (by decide +kernel : segB 5 true prog_7_method_1_code 38 [(.aload_n 0, 1, 0, 0, 0, 0), (.aload_n 1, 1, 0, 0, 0, 0), (.putfield 24, 3, 5, 2, 2, 0)] = true) (pc' := 43) (lv' := [(0, .ref 50), (1, .ref 1), (2, .ref 6), (3, .ref 16), (4, .ref 32), (5, .ref 42)]) (st' := []) (S' := cW 55 _ (up2 _ 50 2 (some 1))) (kc' := 4) (ks' := 581) rfl ⟨trivial, trivial, cw_ok (by decide) rfl, trivial⟩ ?_
  have z5 := z4.ref 50 2 (some 1) (by decide)
  refine R_seg [(.aload_n 0, 1, 0, 0, 0, 0), (.aload_n 2, 1, 0, 0, 0, 0), (.putfield 28, 3, 5, 3, 2, 0)] (by decide +kernel : segB 5 true prog_7_method_1_code 43 [(.aload_n 0, 1, 0, 0, 0, 0), (.aload_n 2, 1, 0, 0, 0, 0), (.putfield 28, 3, 5, 3, 2, 0)] = true) (pc' := 48) (lv' := [(0, .ref 50), (1, .ref 1), (2, .ref 6), (3, .ref 16), (4, .ref 32), (5, .ref 42)]) (st' := []) (S' := cW 55 _ (up2 _ 50 3 (some 6))) (kc' := 4) (ks' := 581) rfl ⟨trivial, trivial, cw_ok (by decide) rfl, trivial⟩ ?_
  have z6 := z5.ref 50 3 (some 6) (by decide)
  refine R_seg [(.aload_n 0, 1, 0, 0, 0, 0), (.aload_n 3, 1, 0, 0, 0, 0), (.putfield 32, 3, 5, 4, 2, 0)] (by decide +kernel : segB 5 true prog_7_method_1_code 48 [(.aload_n 0, 1, 0, 0, 0, 0), (.aload_n 3, 1, 0, 0, 0, 0), (.putfield 32, 3, 5, 4, 2, 0)] = true) (pc' := 53) (lv' := [(0, .ref 50), (1, .ref 1), (2, .ref 6), (3, .ref 16), (4, .ref 32), (5, .ref 42)]) (st' := []) (S' := cW 55 _ (up2 _ 50 4 (some 16))) (kc' := 4) (ks' := 581) rfl ⟨trivial, trivial, cw_ok (by decide) rfl, trivial⟩ ?_
  have z7 := z6.ref 50 4 (some 16) (by decide)
  refine R_seg [(.aload_n 0, 1, 0, 0, 0, 0), (.aload 4, 2, 0, 0, 0, 0), (.putfield 36, 3, 5, 5, 2, 0)] (by decide +kernel : segB 5 true prog_7_method_1_code 53 [(.aload_n 0, 1, 0, 0, 0, 0), (.aload 4, 2, 0, 0, 0, 0), (.putfield 36, 3, 5, 5, 2, 0)] = true) (pc' := 59) (lv' := [(0, .ref 50), (1, .ref 1), (2, .ref 6), (3, .ref 16), (4, .ref 32), (5, .ref 42)]) (st' := []) (S' := cW 55 _ (up2 _ 50 5 (some 32))) (kc' := 4) (ks' := 581) rfl ⟨trivial, trivial, cw_ok (by decide) rfl, trivial⟩ ?_
  have z8 := z7.ref 50 5 (some 32) (by decide)
  refine R_seg [(.aload_n 0, 1, 0, 0, 0, 0), (.aload 5, 2, 0, 0, 0, 0), (.putfield 40, 3, 5, 6, 2, 0)] (by decide +kernel : segB 5 true prog_7_method_1_code 59 [(.aload_n 0, 1, 0, 0, 0, 0), (.aload 5, 2, 0, 0, 0, 0), (.putfield 40, 3, 5, 6, 2, 0)] = true) (pc' := 65) (lv' := [(0, .ref 50), (1, .ref 1), (2, .ref 6), (3, .ref 16), (4, .ref 32), (5, .ref 42)]) (st' := []) (S' := cW 55 _ (up2 _ 50 6 (some 42))) (kc' := 4) (ks' := 581) rfl ⟨trivial, trivial, cw_ok (by decide) rfl, trivial⟩ ?_
  have z9 := z8.ref 50 6 (some 42) (by decide)
  exact R_ret ck_22_65 rfl (hp z9)
def r_45 (ρ : RHO) : RHO := (up2 (up2 (up2 (up2 ρ 55 0 (some 56)) 55 2 (some 16)) 55 3 (some 32)) 55 4 (some 51))
def w_45 (w : WW) : WW := w
set_option maxHeartbeats 4000000 in
theorem cn_45 {d : Nat} {w : WW} {ρ : RHO} {Post : Option Value → Sto → Prop} (z0 : ZR 56 w ρ) (hp : ZR 57 (w_45 w) (r_45 ρ) → Post none (cW 57 (w_45 w) (r_45 ρ))) : Ex (d + 1) 45 [.ref 55, .ref 16, .ref 32, .ref 51] (cW 56 w ρ) 1 3500 Post := by
  refine en_45 (Nat.le_of_ble_eq_true rfl) ?_
  show RU_45 (d) (1, 3500) Post 0 [(0, .ref 55), (1, .ref 16), (2, .ref 32), (3, .ref 51)] [] (cW 56 w ρ) 0 0
  refine R_ob (by decide +kernel : segB 8 true prog_10_method_1_code 0 [(.aload_n 0, 1, 0, 0, 0, 0), (.invokespecial 3, 3, 0, 4, 0, 0)] = true) ?_
  refine R_ar_sipush (k := 55) (n := 56) (m := 3500) (by decide +kernel : segB 8 true prog_10_method_1_code 4 [(.aload_n 0, 1, 0, 0, 0, 0), (.sipush 3500, 3, 0, 0, 0, 3500), (.newarray .int, 2, 13, 0, 0, 0), (.putfield 11, 3, 8, 0, 2, 0)] = true) ⟨by decide, by decide, by decide⟩ rfl (by decide) rfl ⟨by decide, by decide⟩ z0 (fun z1 => ?_)
  refine R_seg [(.aload_n 0, 1, 0, 0, 0, 0), (.aload_n 1, 1, 0, 0, 0, 0), (.putfield 15, 3, 8, 2, 2, 0)] (by decide +kernel : segB 8 true prog_10_method_1_code 13 [(.aload_n 0, 1, 0, 0, 0, 0), (.aload_n 1, 1, 0, 0, 0, 0), (.putfield 15, 3, 8, 2, 2, 0)] = true) (pc' := 18) (lv' := [(0, .ref 55), (1, .ref 16), (2, .ref 32), (3, .ref 51)]) (st' := []) (S' := cW 57 _ (up2 _ 55 2 (some 16))) (kc' := 1) (ks' := 3500) rfl ⟨trivial, trivial, cw_ok (by decide) rfl, trivial⟩ ?_
  have z2 := z1.ref 55 2 (some 16) (by decide)
  refine R_seg [(.aload_n 0, 1, 0, 0, 0, 0), (.aload_n 2, 1, 0, 0, 0, 0), (.putfield 19, 3, 8, 3, 2, 0)] (by decide +kernel : segB 8 true prog_10_method_1_code 18 [(.aload_n 0, 1, 0, 0, 0, 0), (.aload_n 2, 1, 0, 0, 0, 0), (.putfield 19, 3, 8, 3, 2, 0)] = true) (pc' := 23) (lv' := [(0, .ref 55), (1, .ref 16), (2, .ref 32), (3, .ref 51)]) (st' := []) (S' := cW 57 _ (up2 _ 55 3 (some 32))) (kc' := 1) (ks' := 3500) rfl ⟨trivial, trivial, cw_ok (by decide) rfl, trivial⟩ ?_
  have z3 := z2.ref 55 3 (some 32) (by decide)
  refine R_seg [(.aload_n 0, 1, 0, 0, 0, 0), (.aload_n 3, 1, 0, 0, 0, 0), (.putfield 23, 3, 8, 4, 2, 0)] (by decide +kernel : segB 8 true prog_10_method_1_code 23 [(.aload_n 0, 1, 0, 0, 0, 0), (.aload_n 3, 1, 0, 0, 0, 0), (.putfield 23, 3, 8, 4, 2, 0)] = true) (pc' := 28) (lv' := [(0, .ref 55), (1, .ref 16), (2, .ref 32), (3, .ref 51)]) (st' := []) (S' := cW 57 _ (up2 _ 55 4 (some 51))) (kc' := 1) (ks' := 3500) rfl ⟨trivial, trivial, cw_ok (by decide) rfl, trivial⟩ ?_
  have z4 := z3.ref 55 4 (some 51) (by decide)
  exact R_ret ck_45_28 rfl (hp z4)
