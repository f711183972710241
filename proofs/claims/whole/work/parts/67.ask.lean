/-! ===== ask on both sides ===== -/
theorem up2_o {α : Type} (f : Nat → Nat → α) (k i : Nat) (v : α) {j : Nat} (h : j ≠ i) : up2 f k i v k j = f k j := by simp [up2, va_up, h]
theorem aRun_ck {w : WW} {id t r : Nat} (B : BI w) (hT : TO w) (hid : id < 192) (h0 : 0 < w 32 7 ∧ id / 32 = w 33 0 ∧ w 36 0 = 1) (hnow : w 1 4 + t ≤ 100000) : CK (aRun id t r w) := by
  have M0 := aSet_mi B hT r
  have ho : OKn (aSet r w) 5 0 id := by
    unfold OKn
    rw [aSet_k r w (show 32 ≠ 42 ∧ 32 ≠ 50 ∧ 32 ≠ 51 ∧ 32 ≠ 52 ∧ 32 ≠ 54 by decide), aSet_k r w (show 33 ≠ 42 ∧ 33 ≠ 50 ∧ 33 ≠ 51 ∧ 33 ≠ 52 ∧ 33 ≠ 54 by decide), aSet_k r w (show 36 ≠ 42 ∧ 36 ≠ 50 ∧ 36 ≠ 51 ∧ 36 ≠ 52 ∧ 36 ≠ 54 by decide)]
    exact ⟨h0.1, hid, h0.2.1, by rw [h0.2.2]⟩
  have M1 := need_mi M0 ho
  refine rlp_ck t _ M1.1 ?_
  rw [M1.2.1 1 (by decide), aSet_k r w (by decide)]
  exact hnow
theorem eqa_rw : ∀ p, p ∈ EQA → (57 < p.1 ∧ p.1 ≠ 85 ∧ p.1 ≠ 104 ∧ (p.1 < 87 ∨ 93 < p.1)) ∧ (p.2 < 57 ∧ p.2 ≠ 5 ∧ p.2 ≠ 30 ∧ (p.2 < 32 ∨ 41 < p.2)) ∧ p.2 ≠ 55 ∧ p.2 ≠ 56 := by decide
theorem RW_of {w q v : WW} (S : Sim w) (A : ∀ k, k < 57 ∧ k ≠ 5 ∧ k ≠ 30 ∧ (k < 32 ∨ 41 < k) → q k = w k) (G : ∀ k, 57 < k ∧ k ≠ 85 ∧ k ≠ 104 ∧ (k < 87 ∨ 93 < k) → v k = w k) (e57 : ∀ i, i = 1 ∨ i = 10 ∨ i = 47 ∨ i = 50 ∨ i = 51 → v 57 i = w 57 i) (e85 : v 85 = q 5) : RW q v := by
  obtain ⟨s0, s1, s2, s3, s4, s5, s6, s7, s8, s9, s10, s11, s12, s13, s14, s15, s16, s17, s18, s19, s20, s21⟩ := S
  refine ⟨⟨fun p hp => ?_, ?_, fun h hh => ?_⟩, ⟨?_, e85⟩, s14.fr (fun k hk => A k (by omega)) (fun k hk => G k (by omega)), ?_, ?_, ?_, ?_⟩
  · rw [G p.1 (eqa_rw p hp).1, A p.2 (eqa_rw p hp).2.1]; exact s10 p hp
  · rw [e57 10 (by decide), A 6 (by decide)]; exact s11
  · rw [G 58 (by decide), G 59 (by decide), G 60 (by decide), G 61 (by decide), G 62 (by decide), A (11 + h) (by omega)]; exact s12 h hh
  · rw [e57 1 (by decide), A 1 (by decide)]; exact s13.1
  · rw [A 25 (by decide), G 81 (by decide), A 1 (by decide)]; exact s15
  · unfold RC; rw [e57 51 (by decide), G 98 (by decide), G 99 (by decide), G 100 (by decide), G 101 (by decide), G 102 (by decide), A 43 (by decide), A 44 (by decide), A 45 (by decide), A 46 (by decide), A 47 (by decide), A 42 (by decide), G 103 (by decide), A 49 (by decide), A 48 (by decide)]; exact s16
  · unfold RQ; rw [e57 47 (by decide), e57 50 (by decide), G 97 (by decide), A 53 (by decide), A 50 (by decide)]; exact s17
  · rw [A 51 (by decide), G 94 (by decide), G 95 (by decide)]; exact s18
/-- what holds again where an ask has told its answer -/
theorem Sim.ask {w q a t u : WW} {id : Nat} {l : List Nat} {hb : Bool} (S : Sim w) (eq1 : ∀ k, k ≠ 5 ∧ k ≠ 30 ∧ (k < 32 ∨ 41 < k) → q k = w k) (q30 : q 30 1 = 0) (R : RES q a id) (hSO : SO a) (hZ : ZO a) (hC : CK a) (T : TOLD a l hb t) (hl : l.length ≤ 3500) (hR : Rl a u) (eu : ∀ k, k < 57 → u k = t k) (e86 : u 86 = w 86) (e32 : u 57 32 = 0) (e58 : u 57 58 = w 57 58) (e59 : u 57 59 = l.length) (e104 : ∀ i, i < l.length → u 104 i = l.getD i 0) : Sim u := by
  obtain ⟨s0, s1, s2, s3, s4, s5, s6, s7, s8, s9, s10, s11, s12, s13, s14, s15, s16, s17, s18, s19, s20, s21⟩ := S
  obtain ⟨r1, r2, r3, r4, r5, r6, r7⟩ := R
  have A : ∀ k, k < 57 ∧ k ≠ 55 ∧ k ≠ 56 → u k = a k := fun k hk => (eu k hk.1).trans (T.1 k hk.2.1 hk.2.2)
  have G : ∀ k, k < 32 ∧ k ≠ 1 ∧ k ≠ 5 ∧ k ≠ 25 ∧ k ≠ 30 ∧ (k < 11 ∨ 16 ≤ k) → u k = w k := fun k hk => by
    rw [A k (by omega), r6 k (by omega) (by omega) (by omega) (by omega) (by omega), eq1 k (by omega)]
  have e30 : u 30 1 = 0 := by rw [A 30 (by decide), r6 30 (by decide) (by decide) (by decide) (by decide) (by decide), q30]
  have e55 : u 55 1 = l.length := by rw [eu 55 (by decide)]; exact T.2.1
  refine ⟨?_, ?_, r1.fr (fun k hk => A k (by omega)), ?_, fun g hg => ?_, ?_, ?_, ?_, ⟨?_, fun i hi => ?_⟩, ⟨?_, fun i hi => ?_⟩, fun p hp => ?_, ?_, fun h hh => ?_, ?_, hR.2.2.1.fr (fun k hk => A k (by omega)) (fun _ _ => rfl), ?_, ?_, ?_, ?_, ⟨?_, ?_, ?_, fun i hi => ?_⟩, ?_, ?_⟩
  · unfold SO; rw [A 17 (by decide), A 19 (by decide), A 20 (by decide), A 21 (by decide), A 22 (by decide), A 27 (by decide), A 28 (by decide)]; exact hSO
  · unfold KO; rw [A 1 (by decide), A 25 (by decide)]; exact r3
  · unfold SP; rw [G 6 (by decide), G 8 (by decide), G 9 (by decide), G 10 (by decide)]; exact s3
  · rw [A (11 + g) (by omega)]; exact r2 g hg
  · unfold AO; rw [A 2 (by decide), A 3 (by decide), A 4 (by decide), A 5 (by decide)]; exact r4
  · unfold ZO; rw [A 24 (by decide), A 23 (by decide)]; exact hZ
  · unfold PO; rw [G 18 (by decide)]; exact s7
  · omega
  · rw [G 31 (by decide)]; exact s8.2 i hi
  · rw [e32, e30]
  · rw [e86, G 31 (by decide)]; exact s9.2 i hi
  · have z := eqa_rw p hp; rw [A p.2 ⟨z.2.1.1, z.2.2⟩]; exact hR.1.1 p hp
  · rw [A 6 (by decide)]; exact hR.1.2.1
  · rw [A (11 + h) (by omega)]; exact hR.1.2.2.1 h hh
  · unfold RT; rw [A 1 (by decide), A 5 (by decide)]; exact hR.2.1
  · rw [A 25 (by decide), A 1 (by decide)]; exact hR.2.2.2.1
  · unfold RC; rw [A 43 (by decide), A 44 (by decide), A 45 (by decide), A 46 (by decide), A 47 (by decide), A 42 (by decide), A 49 (by decide), A 48 (by decide)]; exact hR.2.2.2.2.1
  · unfold RQ; rw [A 53 (by decide), A 50 (by decide)]; exact hR.2.2.2.2.2.1
  · rw [A 51 (by decide)]; exact hR.2.2.2.2.2.2.1
  · rw [e58, G 0 (by decide)]; exact s19.1
  · rw [e59, e55]
  · rw [e55]; exact hl
  · rw [e55] at hi; rw [e104 i hi, eu 56 (by decide)]; exact (T.2.2.2 i hi).symm
  · unfold CK; rw [A 42 (by decide), A 46 (by decide), A 48 (by decide)]; exact hC
  · unfold FV0; rw [A 51 (by decide)]; exact r5.1
theorem m_102g {d as ty ke tk : Nat} {v : WW} {τ : Nat → Nat → Int64} {Post : Option Value → Sto → Prop} (h1 : as < 4) (h2 : ty < 6) (h3 : ke < 32) (h4 : 1 ≤ tk) (h5 : tk ≤ 200) (h6 : v 57 1 + tk ≤ 100000) (hgo : RU_102 (d + 20) (0, 0) Post 43 [(0, .ref 57), (1, .int (nI as)), (2, .int (nI ty)), (3, .int (nI ke)), (4, .int (nI tk))] [] (stt (nw v) τ) 0 0) : Ex (d + 21) 102 [.ref 57, .int (nI as), .int (nI ty), .int (nI ke), .int (nI tk)] (stt (nw v) τ) 0 0 Post := by
  have hq : ∀ t, t ≤ 200 → nI tk = nI t → v 57 1 + t ≤ 100000 := by
    intro t ht e
    have := nI_inj (a := tk) (b := t) (by omega) (by omega) e
    omega
  refine m_102a (by omega) (fun q => absurd ⟨⟨as, by omega, by omega, rfl⟩, ⟨ty, by omega, by omega, rfl⟩, ⟨ke, by omega, by omega, rfl⟩, ⟨tk, h4, h5, rfl⟩, hq⟩ q) (fun as' ty' ke' tk' b1 b2 b3 b4 b5 b6 e1 e2 e3 e4 => ?_)
  · have q1 := nI_inj (by omega) (by omega) e1
    have q2 := nI_inj (by omega) (by omega) e2
    have q3 := nI_inj (by omega) (by omega) e3
    have q4 := nI_inj (by omega) (by omega) e4
    rw [q1, q2, q3, q4]
    exact hgo
/-- what the model's reading wants of a world whose model cells are w's -/
theorem Sim.mk_rd {w v : WW} (S : Sim w) (e : ∀ k, 56 < k → v k = w k) : TPR w v ∧ (v 72 = w 20 ∧ v 73 = w 21 ∧ v 74 = w 22) ∧ v 70 = w 18 ∧ v 85 = w 5 ∧ v 57 1 = w 1 4 := by
  obtain ⟨s0, s1, s2, s3, s4, s5, s6, s7, s8, s9, s10, s11, s12, s13, s14, s15, s16, s17, s18, s19, s20, s21⟩ := S
  refine ⟨?_, ⟨?_, ?_, ?_⟩, ?_, ?_, ?_⟩
  · unfold TPR; rw [e 57 (by decide), e 86 (by decide)]; exact s9
  · rw [e 72 (by decide)]; exact s10 (72, 20) (by decide)
  · rw [e 73 (by decide)]; exact s10 (73, 21) (by decide)
  · rw [e 74 (by decide)]; exact s10 (74, 22) (by decide)
  · rw [e 70 (by decide)]; exact s10 (70, 18) (by decide)
  · rw [e 85 (by decide)]; exact s13.2
  · rw [e 57 (by decide)]; exact s13.1
theorem ask_full {d as ty ke tk : Nat} {w r t : WW} {τ : Nat → Nat → Int64} {K : Int32 → Sto → Prop} (S : Sim w) (h1 : as < 4) (h2 : ty < 6) (h3 : ke < 32) (h4 : 1 ≤ tk) (h5 : tk ≤ 200) (h6 : w 1 4 + tk ≤ 100000) (hr : aRead w ty = (r, 0)) (hp : PS r (r 32 7) ≤ r 5 as) (T : TOLD (aRun (ty * 32 + ke) tk (r 2 as) (up2 (up2 r 30 1 0) 5 as (r 5 as - PS r (r 32 7)))) (TT (aRun (ty * 32 + ke) tk (r 2 as) (up2 (up2 r 30 1 0) 5 as (r 5 as - PS r (r 32 7)))) 5 0 (ty * 32 + ke)).1 (TT (aRun (ty * 32 + ke) tk (r 2 as) (up2 (up2 r 30 1 0) 5 as (r 5 as - PS r (r 32 7)))) 5 0 (ty * 32 + ke)).2.2 t) (hk : ∀ n w' τ', Sim w' → K n (stt (nw w') τ')) : Ex (d + 40) 102 [.ref 57, .int (nI as), .int (nI ty), .int (nI ke), .int (nI tk)] (stt (nw t) τ) 0 0 (fun y S2 => y = some (.int (nI (bn (TT (aRun (ty * 32 + ke) tk (r 2 as) (up2 (up2 r 30 1 0) 5 as (r 5 as - PS r (r 32 7)))) 5 0 (ty * 32 + ke)).2.2))) ∧ K (nI (bn (TT (aRun (ty * 32 + ke) tk (r 2 as) (up2 (up2 r 30 1 0) 5 as (r 5 as - PS r (r 32 7)))) 5 0 (ty * 32 + ke)).2.2)) S2) := by
  have S0 := S
  obtain ⟨s0, s1, s2, s3, s4, s5, s6, s7, s8, s9, s10, s11, s12, s13, s14, s15, s16, s17, s18, s19, s20, s21⟩ := S
  have B : BI w := ⟨s0, s1, s2, s3, s4, s5, s6⟩
  have hR0 : RDY w r ty := by
    have q := (aRead_ok s0 h2).2
    rw [hr] at q
    exact q rfl
  have F := hR0.1
  have e5 : r 5 = w 5 := F.1 5 (by decide)
  have h500 : w 5 as ≤ 500 := (s5 as (by omega)).2.2.2
  have h500r : r 5 as ≤ 500 := by rw [e5]; exact h500
  have e1 : r 1 = w 1 := F.1 1 (by decide)
  have hB2 : BI (up2 (up2 r 30 1 0) 5 as (r 5 as - PS r (r 32 7))) := (BI.tape (B.frd F) 0).pay (by omega)
  have hT2 : TO (up2 (up2 r 30 1 0) 5 as (r 5 as - PS r (r 32 7))) := hR0.2.2.1
  have hn0 : 0 < r 32 7 := hR0.2.2.2.1
  have h33 : (ty * 32 + ke) / 32 = r 33 0 := by rw [hR0.2.2.2.2.1]; omega
  have h36 : r 36 0 = 1 := hR0.2.2.2.2.2
  have hnw : r 1 4 + tk ≤ 100000 := by rw [e1]; exact h6
  have hres : RES (up2 (up2 r 30 1 0) 5 as (r 5 as - PS r (r 32 7))) (aRun (ty * 32 + ke) tk (r 2 as) (up2 (up2 r 30 1 0) 5 as (r 5 as - PS r (r 32 7)))) (ty * 32 + ke) := aRun_res hB2 hT2 (by omega) ⟨hn0, h33, h36⟩ hnw
  have hck : CK (aRun (ty * 32 + ke) tk (r 2 as) (up2 (up2 r 30 1 0) 5 as (r 5 as - PS r (r 32 7)))) := aRun_ck hB2 hT2 (by omega) ⟨hn0, h33, h36⟩ hnw
  have hA := ask_end hres hB2 hT2 hn0 h33 h36 (by omega)
  have hPr : PO r := PO.frd s7 F
  have hW : 7 * Wt (aRun (ty * 32 + ke) tk (r 2 as) (up2 (up2 r 30 1 0) 5 as (r 5 as - PS r (r 32 7)))) 5 0 ≤ 3500 := by
    rw [hA.2.2.2.2.2, show Wt (up2 (up2 r 30 1 0) 5 as (r 5 as - PS r (r 32 7))) 5 0 = Wt r 5 0 from Wt_fr (a := up2 (up2 r 30 1 0) 5 as (r 5 as - PS r (r 32 7))) (w := r) rfl rfl rfl rfl rfl rfl 5 0]
    exact fits_ask hPr hR0.2.1 hn0 h500r hp
  have eQ : ∀ k, k ≠ 5 ∧ k ≠ 30 ∧ (k < 32 ∨ 41 < k) → (up2 (up2 r 30 1 0) 5 as (r 5 as - PS r (r 32 7))) k = w k := fun k hk => by
    rw [up2_k _ _ _ _ (show k ≠ 5 by omega), up2_k _ _ _ _ (show k ≠ 30 by omega), F.1 k (by omega)]
  have et : ∀ k, 56 < k → t k = w k := fun k hk => by
    rw [T.1 k (by omega) (by omega), hres.2.2.2.2.2.2 k (by omega), eQ k (by omega)]
  obtain ⟨m1, m2, m3, m4, m5⟩ := S0.mk_rd et
  refine m_102g (d := d + 19) h1 h2 h3 h4 h5 (by rw [m5]; exact h6) ?_
  refine m_102b (d := d + 19) h1 h2 s0 s7 s8 m1 m2 m3 hr m4 h500 (fun v1 τ1 hO q => absurd rfl q) (fun v1 τ1 k hO q k1 k2 k3 => ?_) (fun v1 τ1 hO q k0 => ?_)
  · have z := PS_mono r (k + 1) (r 32 7 - (k + 1))
    rw [show k + 1 + (r 32 7 - (k + 1)) = r 32 7 by omega] at z
    omega
  have V := hO.2.1
  have hM : RMd r v1 τ1 := hO.2.2 rfl
  have e3 : ∀ k, k ≠ 57 ∧ k ≠ 85 ∧ (k < 87 ∨ 93 < k) → (up2 (up2 v1 57 32 0) 85 as (r 5 as - PS r (r 32 7))) k = t k := fun k hk => by
    rw [up2_k _ _ _ _ (show k ≠ 85 by omega), up2_k _ _ _ _ (show k ≠ 57 by omega), V.1 k (by omega) (by omega)]
  have e357 : ∀ i, i ≠ 32 ∧ i ≠ 33 ∧ i ≠ 34 ∧ i ≠ 35 → (up2 (up2 v1 57 32 0) 85 as (r 5 as - PS r (r 32 7))) 57 i = w 57 i := fun i hi => by
    rw [up2_k _ _ _ _ (show 57 ≠ 85 by decide), up2_o _ _ _ _ hi.1, V.2.1 i (by omega) (by omega) (by omega), et 57 (by decide)]
  have hRW : RW (up2 (up2 r 30 1 0) 5 as (r 5 as - PS r (r 32 7))) (up2 (up2 v1 57 32 0) 85 as (r 5 as - PS r (r 32 7))) := by
    refine RW_of S0 (fun k hk => eQ k (by omega)) (fun k hk => ?_) (fun i hi => e357 i (by omega)) ?_
    · rw [e3 k (by omega), et k (by omega)]
    · rw [up2_row, up2_row, up2_k _ _ _ _ (show 85 ≠ 57 by decide), up2_k _ _ _ _ (show 5 ≠ 30 by decide), V.1 85 (by decide) (by decide), m4, e5]
  have hRT : RTr (up2 (up2 r 30 1 0) 5 as (r 5 as - PS r (r 32 7))) (up2 (up2 v1 57 32 0) 85 as (r 5 as - PS r (r 32 7))) := by
    refine ⟨hM.1, fun n hn => ?_⟩
    have z := hM.2.1 n hn
    refine ⟨z.1.1, z.1.2.2.1, fun i hi => ?_⟩
    rw [Nat.mul_comm 6 n]
    exact z.2 i hi
  refine m_102r (d := d + 19) (a := up2 (up2 r 30 1 0) 5 as (r 5 as - PS r (r 32 7))) h1 h2 h3 h5 hB2 hT2 ⟨hn0, h33, h36⟩ hnw hRW hRT (fun v' hRl hFV => ?_)
  have f5 := hres.2.2.2.2.1
  refine m_102e (d := d + 19) (a := aRun (ty * 32 + ke) tk (r 2 as) (up2 (up2 r 30 1 0) 5 as (r 5 as - PS r (r 32 7)))) h2 h3 ⟨hA.1, hA.2.1, hA.2.2.1, f5.1, f5.2.1, f5.2.2.1⟩ hA.2.2.2.2.1 f5.2.2.2 hRl hW (fun t' ht => ⟨rfl, hk _ _ _ ?_⟩)
  have sm2 : SM v' (up2 (up2 v' 57 59 0) 57 60 0) := ⟨fun k k1 k2 => by rw [up2_k _ _ _ _ k1, up2_k _ _ _ _ k1], fun i i1 i2 => by rw [up2_o _ _ _ _ i2, up2_o _ _ _ _ i1]⟩
  have sm3 := sm2.tr ht.1
  have ev : ∀ k, k < 57 ∨ k = 86 → t' k = t k := fun k hk => by
    rw [sm3.1 k (by omega) (by omega), hFV.1 k (by omega), vCl_k as _ (by omega), e3 k (by omega)]
  have e5x : ∀ i, i = 32 ∨ i = 58 → t' 57 i = (up2 (up2 v1 57 32 0) 85 as (r 5 as - PS r (r 32 7))) 57 i := fun i hi => by
    rw [sm3.2 i (by omega) (by omega), hFV.2 i (by omega) (by omega) (by omega) (by omega), vCl_57 as _ (by omega)]
  have hlen := TT_len hA.1 hA.2.1 5 0 (ty * 32 + ke) hA.2.2.2.2.1
  refine Sim.ask S0 eQ rfl hres hA.1 hA.2.2.1 hck T (Nat.le_trans hlen hW) ((hRl.sm sm2).sm ht.1) (fun k hk => ev k (by omega)) ?_ ?_ ?_ ?_ (fun i hi => ?_)
  · rw [ev 86 (by decide), et 86 (by decide)]
  · rw [e5x 32 (by decide)]; rfl
  · rw [e5x 58 (by decide), e357 58 (by decide)]
  · rw [ht.2.1, show (up2 (up2 v' 57 59 0) 57 60 0) 57 59 = 0 from rfl, Nat.zero_add]
  · have z := ht.2.2.2.2 i hi
    rw [show (up2 (up2 v' 57 59 0) 57 60 0) 57 59 = 0 from rfl, Nat.zero_add] at z
    exact z
