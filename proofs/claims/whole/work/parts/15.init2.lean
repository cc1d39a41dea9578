theorem vr_outer (c : ClassId) (N h0 : Nat) : ∀ i : Nat, Jvm.Free.Multi.outerC c N h0 i = arrV c N (fun j => va_rf (if j < i then some (h0 + 1 + j) else none))
  | 0 => by
    show ({ cls := c, slots := Array.replicate N .null, vm := .none } : Cell) = _
    rw [arrV_new]
    refine congrArg (arrV c N) (funext fun j => ?_)
    simp [va_rf]
  | i + 1 => by
    show (Jvm.Free.Multi.outerC c N h0 i).setSlot i (.ref (h0 + 1 + i)) = _
    rw [vr_outer c N h0 i, arrV_store]
    refine congrArg (arrV c N) (funext fun j => ?_)
    by_cases e : j = i
    · subst e
      simp [updV, va_rf]
    · by_cases h : j < i
      · simp [updV, e, h, Nat.lt_succ_of_lt h]
      · simp [updV, e, h, show ¬ j < i + 1 by omega]
def aM (σ : Sg) (a N K : Nat) : Sg := (fun b i => if a ≤ b then 0 else σ.1 b i, fun b i => if b = a then (if i < N then some (a + 1 + i) else none) else if a ≤ b then none else σ.2.1 b i, fun b => if b = a then (15, N) else if a ≤ b ∧ b < a + 1 + N then (10, K) else if a ≤ b then (0, 0) else σ.2.2.1 b, a + 1 + N)
theorem sk_a2 (σ : Sg) (a N K b : Nat) : sk (aM σ a N K) b = if b = a then (15, N) else if a ≤ b ∧ b < a + 1 + N then (10, K) else if a ≤ b then (0, 0) else sk σ b := rfl
theorem hI_a2 (σ : Sg) (a N K b i : Nat) : hI (aM σ a N K) b i = if a ≤ b then 0 else hI σ b i := rfl
theorem hR_a2 (σ : Sg) (a N K b i : Nat) : hR (aM σ a N K) b i = if b = a then (if i < N then some (a + 1 + i) else none) else if a ≤ b then none else hR σ b i := rfl
theorem sn_a2 (σ : Sg) (a N K : Nat) : sn (aM σ a N K) = a + 1 + N := rfl
theorem FrN.m {lo a N K : Nat} {σ : Sg} (h : lo ≤ a) : FrN lo σ (aM σ a N K) := fun b hb => ⟨by rw [sk_a2, if_neg (by omega), if_neg (by omega), if_neg (by omega)], funext fun i => by rw [hI_a2, if_neg (by omega)], funext fun i => by rw [hR_a2, if_neg (by omega), if_neg (by omega)]⟩
section MNA
variable {G : GT} {d k n : Nat} {M : MM} {pc : Nat} {ls st : List AV} {σ : Sg} {Q : Option AV → Sg → Prop}
set_option maxHeartbeats 4000000 in
theorem ar_mna {idx : Nat} {x y : Int} (N K a k' n' : Nat) (ha : sn σ = a) (q : Nat) (hq : pc + 4 = q) (hd : decode (bc M) pc = .ok (.multianewarray idx 2, 4)) (hcl : Cond.classLink M.1.cls idx "[[I" ∈ gT) (hx : x = N) (hy : y = K) (hN : N ≤ 1000) (hK : K ≤ 1000) (hk : k' + (1 + N) ≤ k) (hn : n' + (N + N * K) ≤ n)
    (kk : WA G d k' n' M q ls (Va a :: st) (aM σ a N K) Q) : WA G d k n M pc ls (Vi y :: Vi x :: st) σ Q := by
  subst hq
  subst hx
  subst hy
  subst ha
  intro p l e R s m args below meth c QM mc ms C hfr hlo hmc hms hret H locs cells slots lsC hR0 hL h1 h2
  have hcn : (Int32.ofInt (N : Int)).toNatClampNeg = N := by rw [o_nat (by omega)]; omega
  have hck : (Int32.ofInt (K : Int)).toNatClampNeg = K := by rw [o_nat (by omega)]; omega
  intro T hT X
  obtain ⟨vm₁, cA, comp, -, fA, fC, hO, -, X', step⟩ := X.multianewarray2F C.1 (index := idx) (ty := .int) C.2.2.2.2.1 (C.2.2.2.2.2.1 _ hcl) hR0.2.2.2.2.2.1.2.2 (C.2.2.2.2.2.1 _ ac_I) (g := F0 m pc lsC (.int (Int32.ofInt (K : Int)) :: .int (Int32.ofInt (N : Int)) :: st.map (cv G))) rfl (by rw [C.2.1]; exact hd) rfl (o_nneg (by omega)) (o_nneg (by omega)) (by rw [hcn]; omega) (by rw [hck]; show K * 4 ≤ 536870912; omega) (by rw [hck]; omega) rfl rfl (by rw [hcn]; omega) (by rw [hcn, hck]; omega)
  rw [hcn, hck] at X' step
  have ec : comp = G.2.1 10 := by
    have h9 := (hR0.2.2.2.2.1.2 0 _ rfl).2
    exact Option.some.inj (fC.symm.trans h9)
  subst ec
  have ea : cA = G.2.1 15 := by
    have h9 := (hR0.2.2.2.2.1.2 5 _ rfl).2
    exact Option.some.inj (fA.symm.trans h9)
  subst ea
  generalize hF : Jvm.Free.Multi.fill (T.setVm vm₁) (G.2.1 15) (G.2.1 10) N K (defaultValue .int) N = F at X' step
  have hTh : (T.setVm vm₁).heap = H := hT
  obtain ⟨f1, f2, -, -⟩ := Jvm.Free.Multi.fill_facts (T.setVm vm₁) (G.2.1 15) (G.2.1 10) N K (defaultValue .int) N
  rw [hF, hTh] at f1 f2
  have hold : ∀ x : Nat, x < H.size → F.heap[x]? = H[x]? := fun x hx => by
    have := Jvm.Free.Multi.fill_old (T.setVm vm₁) (G.2.1 15) (G.2.1 10) N K (defaultValue .int) (a := x) (by rw [hTh]; exact hx) N
    rw [hF, hTh] at this
    exact this
  have hrow : ∀ j : Nat, j < N → F.heap[H.size + 1 + j]? = some (vp_cell (G.2.1 10) (K, .inl (fun _ => 0))) := fun j hj => by
    have := Jvm.Free.Multi.fill_inner (T.setVm vm₁) (G.2.1 15) (G.2.1 10) N K (defaultValue .int) N j hj
    rw [hF, hTh] at this
    rw [this, vp_cell_i]
    exact congrArg some (arrV_new (G.2.1 10) K (.int 0))
  rw [vr_outer] at f2
  obtain ⟨g1, g2, g3, g4, g5, g6, g7, g8, g9, g10⟩ := hR0
  have hRep : RepS G (aM σ (sn σ) N K) s F.heap locs := by
    refine ⟨by rw [f1, g1, sn_a2]; omega, fun k x hx => ?_, wl_D G _, ⟨by rw [f1]; have := g4.1; omega, fun q a1 a2 => ?_, g4.2.2⟩, g5, g6, g7, g8, g9, fun b hb => ?_⟩
    · have hk : k < sn (aM σ (sn σ) N K) := by
        have := (List.getElem?_eq_some_iff.mp hx).1
        rwa [wl_len] at this
      rw [wl_get G hk] at hx
      cases hx
      rw [sn_a2] at hk
      by_cases e0 : k < sn σ
      · have ee : ce G (aM σ (sn σ) N K) k = ce G σ k := ce_congr (by funext i; rw [hI_a2, if_neg (by omega)]) (by funext i; rw [hR_a2, if_neg (by omega), if_neg (by omega)]) (by rw [sk_a2, if_neg (by omega), if_neg (by omega), if_neg (by omega)])
        rw [ee]
        exact (g2 k _ (wl_get G e0)).kept (hold _ (by show gB G + k < H.size; omega))
      · by_cases e1 : k = sn σ
        · subst e1
          rw [ce_ref (kd := 15) (n := N) (by rw [sk_a2, if_pos rfl]) (by omega)]
          show F.heap[gB G + sn σ]? = some (vp_cell _ _)
          rw [← g1, f2, vp_cell_q]
          refine congrArg some (congrArg (arrV (G.2.1 15) N) (funext fun i => ?_))
          rw [hR_a2, if_pos rfl]
          by_cases hi : i < N
          · rw [if_pos hi, if_pos hi]
            show va_rf (some (H.size + 1 + i)) = va_rf (some (gB G + (sn σ + 1 + i)))
            rw [g1, show gB G + sn σ + 1 + i = gB G + (sn σ + 1 + i) by omega]
          · rw [if_neg hi, if_neg hi]
            rfl
        · rw [ce_int (n := K) (by rw [sk_a2, if_neg e1, if_pos (by omega)])]
          show F.heap[gB G + k]? = some (vp_cell _ _)
          have h9 := hrow (k - (sn σ + 1)) (by omega)
          rw [show H.size + 1 + (k - (sn σ + 1)) = gB G + k by omega] at h9
          rw [h9]
          have ez : (fun i => Int32.ofInt (hI (aM σ (sn σ) N K) k i)) = fun _ => (0 : Int32) := by
            funext i
            rw [hI_a2, if_pos (by omega)]
            rfl
          rw [ez]
    · rw [hold q (by have := g4.1; omega)]
      exact g4.2.1 q a1 a2
    · rw [sn_a2]
      by_cases e0 : b < sn σ + 1 + N
      · exact e0
      · rw [sk_a2, if_neg (by omega), if_neg (by omega), if_pos (by omega)] at hb
        exact absurd rfl hb
  obtain ⟨t, a1, b1⟩ := kk p l e R s m args below meth c QM mc ms C hfr hlo hmc hms hret F.heap locs (cells + 1 + N) (slots + N + N * K) lsC hRep hL (by omega) (by omega) F rfl X'
  refine ⟨t, step t ?_, b1⟩
  have e : T.heap.size = gB G + sn σ := by rw [hT, g1]
  rw [e]
  exact a1
end MNA
-- ===== the constructors of the reader and the baker =====
def ShB (σ : Sg) : Prop := (sk σ 121).1 = 1 ∧ sk σ 122 = (10, 6) ∧ sk σ 123 = (12, 6) ∧ sk σ 124 = (15, 6) ∧ (∀ l, l < 6 → sk σ (125 + l) = (10, 60)) ∧ sk σ 131 = (15, 6) ∧ (∀ l, l < 6 → sk σ (132 + l) = (10, 17)) ∧ hR σ 121 3 = some 122 ∧ hR σ 121 4 = some 123 ∧ hR σ 121 5 = some 124 ∧ hR σ 121 6 = some 131 ∧ ∀ l, l < 6 → hR σ 123 l = some (138 + 3 * l) ∧ hR σ 124 l = some (125 + l) ∧ hR σ 131 l = some (132 + l) ∧ ShM σ (138 + 3 * l)
def ShR (σ : Sg) : Prop := (sk σ 156).1 = 3 ∧ sk σ 157 = (10, 60) ∧ sk σ 158 = (10, 60) ∧ sk σ 159 = (10, 60) ∧ sk σ 160 = (10, 60) ∧ hR σ 156 0 = some 157 ∧ hR σ 156 1 = some 158 ∧ hR σ 156 7 = some 159 ∧ hR σ 156 8 = some 160
section INB
variable {G : GT} {d k n : Nat} {σ : Sg} {Q : Option AV → Sg → Prop}
theorem sp_X2_init (hk : (sk σ 156).1 = 3) (hn : sn σ = 157) (hk2 : 4 ≤ k) (hn2 : 240 ≤ n) (hdp : 1 ≤ d) (hQ : ∀ σ', ShR σ' → sn σ' = 161 → FrN 156 σ σ' → Q none σ') : WA G d k n mX2_init 0 [Va 156] [] σ Q := by
  refine ar_aload_n 1 rfl d_X2_init_0 rfl ?_
  refine ar_oinit 4 rfl d_X2_init_1 ml_X2_3 oi_i oi_c (Nat.le_of_ble_eq_true rfl) (by omega) ?_
  refine ar_aload_n 5 rfl d_X2_init_4 rfl ?_
  refine ar_bipush 7 rfl d_X2_init_5 rfl ?_
  refine ar_newIA 60 157 (k - 1) (n - 60) (by simp [sk_aA, hI_aA, hR_aA, sn_aA, sk_wI, sk_wR, sn_wI, sn_wR, hIwR, hRwI, hI_w, hR_w, sk_a2, hI_a2, hR_a2, sn_a2, hn]) 9 rfl d_X2_init_7 rfl (by omega) (by omega) (by omega) ?_
  refine ar_putRF 12 rfl d_X2_init_9 fl_X2_9 (Or.inr ⟨_, rfl⟩) rfl rfl rfl (by simp [sk_aA, hI_aA, hR_aA, sn_aA, sk_wI, sk_wR, sn_wI, sn_wR, hIwR, hRwI, hI_w, hR_w, sk_a2, hI_a2, hR_a2, sn_a2, hk]) ?_
  refine ar_aload_n 13 rfl d_X2_init_12 rfl ?_
  refine ar_bipush 15 rfl d_X2_init_13 rfl ?_
  refine ar_newIA 60 158 (k - 2) (n - 120) (by simp [sk_aA, hI_aA, hR_aA, sn_aA, sk_wI, sk_wR, sn_wI, sn_wR, hIwR, hRwI, hI_w, hR_w, sk_a2, hI_a2, hR_a2, sn_a2, hn]) 17 rfl d_X2_init_15 rfl (by omega) (by omega) (by omega) ?_
  refine ar_putRF 20 rfl d_X2_init_17 fl_X2_15 (Or.inr ⟨_, rfl⟩) rfl rfl rfl (by simp [sk_aA, hI_aA, hR_aA, sn_aA, sk_wI, sk_wR, sn_wI, sn_wR, hIwR, hRwI, hI_w, hR_w, sk_a2, hI_a2, hR_a2, sn_a2, hk]) ?_
  refine ar_aload_n 21 rfl d_X2_init_20 rfl ?_
  refine ar_bipush 23 rfl d_X2_init_21 rfl ?_
  refine ar_newIA 60 159 (k - 3) (n - 180) (by simp [sk_aA, hI_aA, hR_aA, sn_aA, sk_wI, sk_wR, sn_wI, sn_wR, hIwR, hRwI, hI_w, hR_w, sk_a2, hI_a2, hR_a2, sn_a2, hn]) 25 rfl d_X2_init_23 rfl (by omega) (by omega) (by omega) ?_
  refine ar_putRF 28 rfl d_X2_init_25 fl_X2_18 (Or.inr ⟨_, rfl⟩) rfl rfl rfl (by simp [sk_aA, hI_aA, hR_aA, sn_aA, sk_wI, sk_wR, sn_wI, sn_wR, hIwR, hRwI, hI_w, hR_w, sk_a2, hI_a2, hR_a2, sn_a2, hk]) ?_
  refine ar_aload_n 29 rfl d_X2_init_28 rfl ?_
  refine ar_bipush 31 rfl d_X2_init_29 rfl ?_
  refine ar_newIA 60 160 (k - 4) (n - 240) (by simp [sk_aA, hI_aA, hR_aA, sn_aA, sk_wI, sk_wR, sn_wI, sn_wR, hIwR, hRwI, hI_w, hR_w, sk_a2, hI_a2, hR_a2, sn_a2, hn]) 33 rfl d_X2_init_31 rfl (by omega) (by omega) (by omega) ?_
  refine ar_putRF 36 rfl d_X2_init_33 fl_X2_21 (Or.inr ⟨_, rfl⟩) rfl rfl rfl (by simp [sk_aA, hI_aA, hR_aA, sn_aA, sk_wI, sk_wR, sn_wI, sn_wR, hIwR, hRwI, hI_w, hR_w, sk_a2, hI_a2, hR_a2, sn_a2, hk]) ?_
  refine WA.ret none ⟨d_X2_init_36, rfl, rfl⟩ ?_
  refine hQ _ ?_ rfl ?_
  · unfold ShR
    simp [sk_aA, hI_aA, hR_aA, sn_aA, sk_wI, sk_wR, sn_wI, sn_wR, hIwR, hRwI, hI_w, hR_w, sk_a2, hI_a2, hR_a2, sn_a2, hk]
  · exact (((((((FrN.a (by omega)).tr (FrN.wR (by omega))).tr (FrN.a (by omega))).tr (FrN.wR (by omega))).tr (FrN.a (by omega))).tr (FrN.wR (by omega))).tr (FrN.a (by omega))).tr (FrN.wR (by omega))
def ShB0 (σ : Sg) : Prop := (sk σ 121).1 = 1 ∧ sk σ 122 = (10, 6) ∧ sk σ 123 = (12, 6) ∧ sk σ 124 = (15, 6) ∧ (∀ l, l < 6 → sk σ (125 + l) = (10, 60)) ∧ sk σ 131 = (15, 6) ∧ (∀ l, l < 6 → sk σ (132 + l) = (10, 17)) ∧ hR σ 121 3 = some 122 ∧ hR σ 121 4 = some 123 ∧ hR σ 121 5 = some 124 ∧ hR σ 121 6 = some 131 ∧ ∀ l, l < 6 → hR σ 124 l = some (125 + l) ∧ hR σ 131 l = some (132 + l)
set_option maxHeartbeats 8000000 in
theorem sp_X0_init (hk : (sk σ 121).1 = 1) (hn : sn σ = 122) (hk2 : 34 ≤ k) (hn2 : 750 ≤ n) (hdp : 2 ≤ d) (hQ : ∀ σ', ShB σ' → sn σ' = 156 → FrN 121 σ σ' → Q none σ') : WA G d k n mX0_init 0 [Va 121, Vu] [] σ Q := by
  have loop : ∀ r i : Nat, ∀ (σi : Sg) (k' n' : Nat), 6 - i = r → i ≤ 6 → sn σi = 138 + 3 * i → FrN 121 σ σi → 3 * (6 - i) ≤ k' → 44 * (6 - i) ≤ n' → ShB0 σi → (∀ l, l < i → hR σi 123 l = some (138 + 3 * l) ∧ ShM σi (138 + 3 * l)) → WA G d k' n' mX0_init 47 [Va 121, Vi (i : Int)] [] σi Q := by
    intro r
    induction r using Nat.strongRecOn with
    | ind r ih =>
    intro i σi k' n' hr hi hn hf hk' hn' hsh hmm
    have hk := hsh.1
    have hk3 : sk σi 123 = (12, 6) := hsh.2.2.1
    have hr4 : hR σi 121 4 = some 123 := hsh.2.2.2.2.2.2.2.2.1
    refine ar_iload_n 48 rfl d_X0_init_47 rfl ?_
    refine ar_bipush 50 rfl d_X0_init_48 rfl ?_
    refine ar_icmp_ge 72 53 rfl rfl d_X0_init_50 (by omega) (by omega) (fun g50 => ?_) (fun g50 => ?_)
    · refine WA.ret none ⟨d_X0_init_72, rfl, rfl⟩ ?_
      have hi6 : i = 6 := by omega
      subst hi6
      obtain ⟨q1, q2, q3, q4, q5, q6, q7, q8, q9, q10, q11, q12⟩ := hsh
      exact hQ σi ⟨q1, q2, q3, q4, q5, q6, q7, q8, q9, q10, q11, fun l hl => ⟨(hmm l hl).1, (q12 l hl).1, (q12 l hl).2, (hmm l hl).2⟩⟩ hn hf
    · refine ar_aload_n 54 rfl d_X0_init_53 rfl ?_
      refine ar_getA 57 rfl d_X0_init_54 fl_X0_17 rfl (by assumption) (by assumption) ?_
      refine ar_iload_n 58 rfl d_X0_init_57 rfl ?_
      refine ar_newA 1 (138 + 3 * i) (k' - 1) (n' - 8) hn 61 rfl d_X0_init_58 (by decide) kl_X0_15 in_1 ii_1 (by omega) (by show n' - 8 + 8 ≤ n'; omega) ?_
      refine ar_dup 62 rfl d_X0_init_61 (fun _ => rfl) ?_
      refine ar_callIN (M' := mX1_init) (As := []) (ls' := [Va _]) 2 36 (3 * (6 - (i + 1))) (44 * (6 - (i + 1))) 65 rfl d_X0_init_62 ml_X0_29 mt_X1_init rfl (Nat.le_of_ble_eq_true rfl) rfl (Nat.le_of_ble_eq_true rfl) (by omega) (by omega) (by omega) ?_
      refine sp_X1_init (by rw [sk_aA, if_pos rfl]) (sn_aA _ _ _ _) (by omega) (by omega) (by omega) (fun σ1 hm1 hn1 hf1 => ?_)
      have hg : ∀ b, b < 138 + 3 * i → sk σ1 b = sk σi b ∧ hI σ1 b = hI σi b ∧ hR σ1 b = hR σi b := ((FrN.a (Nat.le_refl _)).tr hf1)
      have hk4' : sk σ1 123 = (12, 6) := by rw [(hg 123 (by omega)).1]; exact hk3
      refine ar_aasN (kd := 12) i 66 rfl d_X0_init_65 (by assumption) (by omega) (by omega) (by omega) hm1.1 ?_
      refine ar_inc_1 (y := ((i + 1 : Nat) : Int)) 69 rfl d_X0_init_66 rfl (by intro _ h; cases h) (by omega) ?_
      refine ar_goto 47 rfl d_X0_init_69 ?_
      refine ih (6 - (i + 1)) (by omega) (i + 1) _ _ _ rfl (by omega) (by rw [sn_wR, hn1]; omega) ((hf.tr (FrN.sub hg (by omega))).tr (FrN.wR (by omega))) (Nat.le_refl _) (Nat.le_refl _) ?_ ?_
      · obtain ⟨q1, q2, q3, q4, q5, q6, q7, q8, q9, q10, q11, q12⟩ := hsh
        refine ⟨?_, ?_, ?_, ?_, fun l hl => ?_, ?_, fun l hl => ?_, ?_, ?_, ?_, ?_, fun l hl => ⟨?_, ?_⟩⟩
        iterate 4 (rw [sk_wR, (hg _ (by omega)).1]; assumption)
        · rw [sk_wR, (hg _ (by omega)).1]; exact q5 l hl
        · rw [sk_wR, (hg _ (by omega)).1]; assumption
        · rw [sk_wR, (hg _ (by omega)).1]; exact q7 l hl
        iterate 4 (rw [hR_w, if_neg (by omega), (hg _ (by omega)).2.2]; assumption)
        · rw [hR_w, if_neg (by omega), (hg _ (by omega)).2.2]; exact (q12 l hl).1
        · rw [hR_w, if_neg (by omega), (hg _ (by omega)).2.2]; exact (q12 l hl).2
      · intro p hp
        by_cases e : p = i
        · subst e
          refine ⟨by rw [hR_w, if_pos ⟨rfl, rfl⟩], ?_⟩
          have := hm1
          unfold ShM at this ⊢
          simp only [sk_wR]
          rw [hR_w, if_neg (by omega), hR_w, if_neg (by omega)]
          exact this
        · have hpi := hmm p (by omega)
          refine ⟨?_, ?_⟩
          · rw [hR_w, if_neg (by omega), (hg 123 (by omega)).2.2]
            exact hpi.1
          · have h3 := hpi.2.frn hg (by omega)
            unfold ShM at h3 ⊢
            simp only [sk_wR]
            rw [hR_w, if_neg (by omega), hR_w, if_neg (by omega)]
            exact h3
  refine ar_aload_n 1 rfl d_X0_init_0 rfl ?_
  refine ar_oinit 4 rfl d_X0_init_1 ml_X0_3 oi_i oi_c (Nat.le_of_ble_eq_true rfl) (by omega) ?_
  refine ar_aload_n 5 rfl d_X0_init_4 rfl ?_
  refine ar_bipush 7 rfl d_X0_init_5 rfl ?_
  refine ar_newIA 6 122 (k - 1) (n - 6) (by simp [sk_aA, hI_aA, hR_aA, sn_aA, sk_wI, sk_wR, sn_wI, sn_wR, hIwR, hRwI, hI_w, hR_w, sk_a2, hI_a2, hR_a2, sn_a2, hn]) 9 rfl d_X0_init_7 rfl (by omega) (by omega) (by omega) ?_
  refine ar_putRF 12 rfl d_X0_init_9 fl_X0_9 (Or.inr ⟨_, rfl⟩) rfl rfl rfl (by simp [sk_aA, hI_aA, hR_aA, sn_aA, sk_wI, sk_wR, sn_wI, sn_wR, hIwR, hRwI, hI_w, hR_w, sk_a2, hI_a2, hR_a2, sn_a2, hk]) ?_
  refine ar_aload_n 13 rfl d_X0_init_12 rfl ?_
  refine ar_bipush 15 rfl d_X0_init_13 rfl ?_
  refine ar_anewA 12 6 123 (k - 2) (n - 12) (by simp [sk_aA, hI_aA, hR_aA, sn_aA, sk_wI, sk_wR, sn_wI, sn_wR, hIwR, hRwI, hI_w, hR_w, sk_a2, hI_a2, hR_a2, sn_a2, hn]) 18 rfl d_X0_init_15 (by omega) kl_X0_15 rfl (by omega) (by omega) (by omega) ?_
  refine ar_putRF 21 rfl d_X0_init_18 fl_X0_17 (Or.inr ⟨_, rfl⟩) rfl rfl rfl (by simp [sk_aA, hI_aA, hR_aA, sn_aA, sk_wI, sk_wR, sn_wI, sn_wR, hIwR, hRwI, hI_w, hR_w, sk_a2, hI_a2, hR_a2, sn_a2, hk]) ?_
  refine ar_aload_n 22 rfl d_X0_init_21 rfl ?_
  refine ar_bipush 24 rfl d_X0_init_22 rfl ?_
  refine ar_bipush 26 rfl d_X0_init_24 rfl ?_
  refine ar_mna 6 60 124 (k - 9) (n - 378) (by simp [sk_aA, hI_aA, hR_aA, sn_aA, sk_wI, sk_wR, sn_wI, sn_wR, hIwR, hRwI, hI_w, hR_w, sk_a2, hI_a2, hR_a2, sn_a2, hn]) 30 rfl d_X0_init_26 kl_X0_21 rfl rfl (by omega) (by omega) (by omega) (by omega) ?_
  refine ar_putRF 33 rfl d_X0_init_30 fl_X0_23 (Or.inr ⟨_, rfl⟩) rfl rfl rfl (by simp [sk_aA, hI_aA, hR_aA, sn_aA, sk_wI, sk_wR, sn_wI, sn_wR, hIwR, hRwI, hI_w, hR_w, sk_a2, hI_a2, hR_a2, sn_a2, hk]) ?_
  refine ar_aload_n 34 rfl d_X0_init_33 rfl ?_
  refine ar_bipush 36 rfl d_X0_init_34 rfl ?_
  refine ar_bipush 38 rfl d_X0_init_36 rfl ?_
  refine ar_mna 6 17 131 (k - 16) (n - 486) (by simp [sk_aA, hI_aA, hR_aA, sn_aA, sk_wI, sk_wR, sn_wI, sn_wR, hIwR, hRwI, hI_w, hR_w, sk_a2, hI_a2, hR_a2, sn_a2, hn]) 42 rfl d_X0_init_38 kl_X0_21 rfl rfl (by omega) (by omega) (by omega) (by omega) ?_
  refine ar_putRF 45 rfl d_X0_init_42 fl_X0_26 (Or.inr ⟨_, rfl⟩) rfl rfl rfl (by simp [sk_aA, hI_aA, hR_aA, sn_aA, sk_wI, sk_wR, sn_wI, sn_wR, hIwR, hRwI, hI_w, hR_w, sk_a2, hI_a2, hR_a2, sn_a2, hk]) ?_
  refine ar_iconst 46 rfl d_X0_init_45 ?_
  refine ar_ist_1 47 rfl d_X0_init_46 rfl (by intro _ h; cases h) ?_
  refine loop 6 0 _ _ _ rfl (by omega) rfl ?_ (by omega) (by omega) ?_ (fun p hp => absurd hp (by omega))
  · exact (((((((FrN.a (by omega)).tr (FrN.wR (by omega))).tr (FrN.a (by omega))).tr (FrN.wR (by omega))).tr (FrN.m (by omega))).tr (FrN.wR (by omega))).tr (FrN.m (by omega))).tr (FrN.wR (by omega))
  · refine ⟨?_, ?_, ?_, ?_, fun l hl => ?_, ?_, fun l hl => ?_, ?_, ?_, ?_, ?_, fun l hl => ⟨?_, ?_⟩⟩
    · simp [sk_aA, hI_aA, hR_aA, sn_aA, sk_wI, sk_wR, sn_wI, sn_wR, hIwR, hRwI, hI_w, hR_w, sk_a2, hI_a2, hR_a2, sn_a2, hk]
    · simp [sk_aA, hI_aA, hR_aA, sn_aA, sk_wI, sk_wR, sn_wI, sn_wR, hIwR, hRwI, hI_w, hR_w, sk_a2, hI_a2, hR_a2, sn_a2]
    · simp [sk_aA, hI_aA, hR_aA, sn_aA, sk_wI, sk_wR, sn_wI, sn_wR, hIwR, hRwI, hI_w, hR_w, sk_a2, hI_a2, hR_a2, sn_a2]
    · simp [sk_aA, hI_aA, hR_aA, sn_aA, sk_wI, sk_wR, sn_wI, sn_wR, hIwR, hRwI, hI_w, hR_w, sk_a2, hI_a2, hR_a2, sn_a2]
    · simp only [sk_aA, hI_aA, hR_aA, sn_aA, sk_wI, sk_wR, sn_wI, sn_wR, hIwR, hRwI, hI_w, hR_w, sk_a2, hI_a2, hR_a2, sn_a2]
      rw [if_neg (by omega), if_neg (by omega), if_neg (by omega), if_neg (by omega), if_pos (by omega)]
    · simp [sk_aA, hI_aA, hR_aA, sn_aA, sk_wI, sk_wR, sn_wI, sn_wR, hIwR, hRwI, hI_w, hR_w, sk_a2, hI_a2, hR_a2, sn_a2]
    · simp only [sk_aA, hI_aA, hR_aA, sn_aA, sk_wI, sk_wR, sn_wI, sn_wR, hIwR, hRwI, hI_w, hR_w, sk_a2, hI_a2, hR_a2, sn_a2]
      rw [if_neg (by omega), if_pos (by omega)]
    · simp [sk_aA, hI_aA, hR_aA, sn_aA, sk_wI, sk_wR, sn_wI, sn_wR, hIwR, hRwI, hI_w, hR_w, sk_a2, hI_a2, hR_a2, sn_a2]
    · simp [sk_aA, hI_aA, hR_aA, sn_aA, sk_wI, sk_wR, sn_wI, sn_wR, hIwR, hRwI, hI_w, hR_w, sk_a2, hI_a2, hR_a2, sn_a2]
    · simp [sk_aA, hI_aA, hR_aA, sn_aA, sk_wI, sk_wR, sn_wI, sn_wR, hIwR, hRwI, hI_w, hR_w, sk_a2, hI_a2, hR_a2, sn_a2]
    · simp [sk_aA, hI_aA, hR_aA, sn_aA, sk_wI, sk_wR, sn_wI, sn_wR, hIwR, hRwI, hI_w, hR_w, sk_a2, hI_a2, hR_a2, sn_a2]
    · simp [sk_aA, hI_aA, hR_aA, sn_aA, sk_wI, sk_wR, sn_wI, sn_wR, hIwR, hRwI, hI_w, hR_w, sk_a2, hI_a2, hR_a2, sn_a2, hl]
    · simp [sk_aA, hI_aA, hR_aA, sn_aA, sk_wI, sk_wR, sn_wI, sn_wR, hIwR, hRwI, hI_w, hR_w, sk_a2, hI_a2, hR_a2, sn_a2, hl]
end INB
