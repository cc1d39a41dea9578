-- allocation at a known address
def aA (σ : Sg) (a kd n : Nat) : Sg := (fun b i => if b = a then 0 else σ.1 b i, fun b i => if b = a then none else σ.2.1 b i, fun b => if b = a then (kd, n) else σ.2.2.1 b, a + 1)
theorem aA_e {σ : Sg} {a kd n : Nat} (h : sn σ = a) : al σ kd n = aA σ a kd n := by
  subst h
  rfl
theorem sk_aA (σ : Sg) (a kd n b : Nat) : sk (aA σ a kd n) b = if b = a then (kd, n) else sk σ b := rfl
theorem hI_aA (σ : Sg) (a kd n b i : Nat) : hI (aA σ a kd n) b i = if b = a then 0 else hI σ b i := rfl
theorem hR_aA (σ : Sg) (a kd n b i : Nat) : hR (aA σ a kd n) b i = if b = a then none else hR σ b i := rfl
theorem sn_aA (σ : Sg) (a kd n : Nat) : sn (aA σ a kd n) = a + 1 := rfl
theorem sk_wI (σ : Sg) (a j : Nat) (x : Int) (b : Nat) : sk (wI σ a j x) b = sk σ b := rfl
theorem sk_wR (σ : Sg) (a j : Nat) (x : Option Nat) (b : Nat) : sk (wR σ a j x) b = sk σ b := rfl
theorem sn_wI (σ : Sg) (a j : Nat) (x : Int) : sn (wI σ a j x) = sn σ := rfl
theorem sn_wR (σ : Sg) (a j : Nat) (x : Option Nat) : sn (wR σ a j x) = sn σ := rfl
theorem hIwR (σ : Sg) (a j : Nat) (r : Option Nat) (b i : Nat) : hI (wR σ a j r) b i = hI σ b i := rfl
theorem hRwI (σ : Sg) (a j : Nat) (x : Int) (b i : Nat) : hR (wI σ a j x) b i = hR σ b i := rfl
section ALL
variable {G : GT} {d k n : Nat} {M : MM} {pc : Nat} {ls st : List AV} {σ : Sg} {Q : Option AV → Sg → Prop}
theorem ar_newA {idx : Nat} (ci a k' n' : Nat) (ha : sn σ = a) (q : Nat) (hq : pc + 3 = q) (hd : decode (bc M) pc = .ok (.new idx, 3)) (hc : ci < 7) (hcl : Cond.classLink M.1.cls idx (cT ci).1 ∈ gT) (hin : Cond.instantiable (cT ci).1 (cT ci).2.2 ∈ gT) (hini : Cond.initialized (cT ci).1 ∈ gT) (hk : k' + 1 ≤ k) (hn : n' + (cT ci).2.2 ≤ n)
    (kk : WA G d k' n' M q ls (Va a :: st) (aA σ a (ci + 1) 0) Q) : WA G d k n M pc ls st σ Q := by
  refine ar_new ci k' n' q hq hd hc hcl hin hini hk hn ?_
  rw [aA_e ha, ha]
  exact kk
theorem ar_newIA {x : Int} (N a k' n' : Nat) (ha : sn σ = a) (q : Nat) (hq : pc + 2 = q) (hd : decode (bc M) pc = .ok (.newarray .int, 2)) (hx : x = N) (hN : N ≤ 536870912 / 4) (hk : k' + 1 ≤ k) (hn : n' + N ≤ n)
    (kk : WA G d k' n' M q ls (Va a :: st) (aA σ a 10 N) Q) : WA G d k n M pc ls (Vi x :: st) σ Q := by
  refine ar_newI N k' n' q hq hd hx hN ac_I hk hn ?_
  rw [aA_e ha, ha]
  exact kk
theorem ar_newZA {x : Int} (N a k' n' : Nat) (ha : sn σ = a) (q : Nat) (hq : pc + 2 = q) (hd : decode (bc M) pc = .ok (.newarray .boolean, 2)) (hx : x = N) (hN : N ≤ 536870912 / 4) (hk : k' + 1 ≤ k) (hn : n' + N ≤ n)
    (kk : WA G d k' n' M q ls (Va a :: st) (aA σ a 11 N) Q) : WA G d k n M pc ls (Vi x :: st) σ Q := by
  refine ar_newZ N k' n' q hq hd hx hN ac_Z hk hn ?_
  rw [aA_e ha, ha]
  exact kk
theorem ar_anewA {idx : Nat} {x : Int} (kd N a k' n' : Nat) (ha : sn σ = a) (q : Nat) (hq : pc + 3 = q) (hd : decode (bc M) pc = .ok (.anewarray idx, 3)) (hkd : 12 ≤ kd ∧ kd ≤ 14) (hcl : Cond.classLink M.1.cls idx (cT (kO kd)).1 ∈ gT) (hx : x = N) (hN : N ≤ 536870912 / 4) (hk : k' + 1 ≤ k) (hn : n' + N ≤ n)
    (kk : WA G d k' n' M q ls (Va a :: st) (aA σ a kd N) Q) : WA G d k n M pc ls (Vi x :: st) σ Q := by
  refine ar_anew kd N k' n' q hq hd hkd hcl hx hN hk hn ?_
  rw [aA_e ha, ha]
  exact kk
end ALL
/-- cells below lo stay -/
def FrN (lo : Nat) (σ σ' : Sg) : Prop := ∀ b, b < lo → sk σ' b = sk σ b ∧ hI σ' b = hI σ b ∧ hR σ' b = hR σ b
theorem FrN.rf {lo : Nat} {σ : Sg} : FrN lo σ σ := fun _ _ => ⟨rfl, rfl, rfl⟩
theorem FrN.tr {lo : Nat} {σ σ1 σ2 : Sg} (h : FrN lo σ σ1) (h2 : FrN lo σ1 σ2) : FrN lo σ σ2 := fun b hb => ⟨(h2 b hb).1.trans (h b hb).1, (h2 b hb).2.1.trans (h b hb).2.1, (h2 b hb).2.2.trans (h b hb).2.2⟩
theorem FrN.sub {lo lo' : Nat} {σ σ' : Sg} (h : FrN lo σ σ') (hl : lo' ≤ lo) : FrN lo' σ σ' := fun b hb => h b (by omega)
theorem FrN.a {lo a kd n : Nat} {σ : Sg} (h : lo ≤ a) : FrN lo σ (aA σ a kd n) := fun b hb => ⟨if_neg (by omega), funext fun i => if_neg (by omega), funext fun i => if_neg (by omega)⟩
theorem FrN.wI {lo a j : Nat} {x : Int} {σ : Sg} (h : lo ≤ a) : FrN lo σ (wI σ a j x) := fun b hb => ⟨rfl, funext fun i => by rw [hI_w, if_neg (by omega)], rfl⟩
theorem FrN.wR {lo a j : Nat} {x : Option Nat} {σ : Sg} (h : lo ≤ a) : FrN lo σ (wR σ a j x) := fun b hb => ⟨rfl, rfl, funext fun i => by rw [hR_w, if_neg (by omega)]⟩
theorem ShM.frn {σ σ' : Sg} {m lo : Nat} (h : ShM σ m) (hf : FrN lo σ σ') (hm : m + 3 ≤ lo) : ShM σ' m := by
  unfold ShM at h ⊢
  rw [(hf m (by omega)).1, (hf (m + 1) (by omega)).1, (hf (m + 2) (by omega)).1, (hf m (by omega)).2.2]
  exact h
section INI
variable {G : GT} {d k n : Nat} {σ : Sg} {Q : Option AV → Sg → Prop}
theorem sp_X1_init {m : Nat} (hk : (sk σ m).1 = 2) (hn : sn σ = m + 1) (hk2 : 2 ≤ k) (hn2 : 36 ≤ n) (hdp : 1 ≤ d) (hQ : ∀ σ', ShM σ' m → sn σ' = m + 3 → FrN m σ σ' → Q none σ') : WA G d k n mX1_init 0 [Va m] [] σ Q := by
  refine ar_aload_n 1 rfl d_X1_init_0 rfl ?_
  refine ar_oinit 4 rfl d_X1_init_1 ml_X1_3 oi_i oi_c (Nat.le_of_ble_eq_true rfl) (by omega) ?_
  refine ar_aload_n 5 rfl d_X1_init_4 rfl ?_
  refine ar_bipush 7 rfl d_X1_init_5 rfl ?_
  refine ar_newIA 18 (m + 1) (k - 1) (n - 18) (by simp [sk_aA, hI_aA, hR_aA, sn_aA, sk_wI, sk_wR, sn_wI, sn_wR, hIwR, hRwI, hI_w, hR_w, hn]) 9 rfl d_X1_init_7 rfl (by omega) (by omega) (by omega) ?_
  refine ar_putRF 12 rfl d_X1_init_9 fl_X1_9 (Or.inr ⟨_, rfl⟩) rfl rfl rfl (by simp [sk_aA, hI_aA, hR_aA, sn_aA, sk_wI, sk_wR, sn_wI, sn_wR, hIwR, hRwI, hI_w, hR_w, hk]) ?_
  refine ar_aload_n 13 rfl d_X1_init_12 rfl ?_
  refine ar_bipush 15 rfl d_X1_init_13 rfl ?_
  refine ar_newIA 18 (m + 2) (k - 2) (n - 36) (by simp [sk_aA, hI_aA, hR_aA, sn_aA, sk_wI, sk_wR, sn_wI, sn_wR, hIwR, hRwI, hI_w, hR_w, hn]) 17 rfl d_X1_init_15 rfl (by omega) (by omega) (by omega) ?_
  refine ar_putRF 20 rfl d_X1_init_17 fl_X1_15 (Or.inr ⟨_, rfl⟩) rfl rfl rfl (by simp [sk_aA, hI_aA, hR_aA, sn_aA, sk_wI, sk_wR, sn_wI, sn_wR, hIwR, hRwI, hI_w, hR_w, hk]) ?_
  refine WA.ret none ⟨d_X1_init_20, rfl, rfl⟩ ?_
  refine hQ _ ?_ rfl ?_
  · unfold ShM
    simp [sk_aA, hI_aA, hR_aA, sn_aA, sk_wI, sk_wR, sn_wI, sn_wR, hIwR, hRwI, hI_w, hR_w, hk]
  · exact (((FrN.a (by omega)).tr (FrN.wR (by omega))).tr (FrN.a (by omega))).tr (FrN.wR (by omega))
def f00 : Nat → Int := fun i => if i = 0 then 8 else if i = 1 then 1 else 0
def S00 : SS := (f00, [], fun _ => [])
set_option maxHeartbeats 8000000 in
theorem sp_X4_init {s : Nat} (hk : (sk σ s).1 = 5) (hn : sn σ = s + 1) (hz : ∀ j, hI σ s j = 0) (hk2 : 57 ≤ k) (hn2 : 797 ≤ n) (hdp : 2 ≤ d) (hQ : ∀ σ', RSt σ' s S00 → sn σ' = s + 58 → FrN s σ σ' → Q none σ') : WA G d k n mX4_init 0 [Va s, Vu] [] σ Q := by
  have loop : ∀ r i : Nat, ∀ (σi : Sg) (k' n' : Nat), 17 - i = r → i ≤ 17 → sn σi = s + 7 + 3 * i → FrN s σ σi → 3 * (17 - i) ≤ k' → 44 * (17 - i) ≤ n' →
      ((sk σi s).1 = 5 ∧ sk σi (s + 1) = (10, 12) ∧ sk σi (s + 2) = (10, 2) ∧ sk σi (s + 3) = (14, 6) ∧ sk σi (s + 4) = (12, 17) ∧ sk σi (s + 5) = (10, 6) ∧ sk σi (s + 6) = (10, 6)) →
      (hR σi s 0 = some (s + 1) ∧ hR σi s 2 = some (s + 2) ∧ hR σi s 3 = some (s + 3) ∧ hR σi s 4 = some (s + 4) ∧ hR σi s 7 = some (s + 5) ∧ hR σi s 8 = some (s + 6)) →
      ((∀ j, hI σi s j = 0) ∧ (∀ j, hI σi (s + 1) j = 0) ∧ hI σi (s + 2) 0 = 8 ∧ hI σi (s + 2) 1 = 1 ∧ (∀ j, hI σi (s + 5) j = 0) ∧ (∀ j, hI σi (s + 6) j = 0) ∧ ∀ j, hR σi (s + 3) j = none) →
      (∀ p, p < i → ShM σi (s + 7 + 3 * p) ∧ hR σi (s + 4) p = some (s + 7 + 3 * p)) → WA G d k' n' mX4_init 64 [Va s, Vi (i : Int)] [] σi Q := by
    intro r
    induction r using Nat.strongRecOn with
    | ind r ih =>
    intro i σi k' n' hr hi hn hf hk' hn' hsk hhr hhi hmm
    have hk := hsk.1
    have hk4 := hsk.2.2.2.2.1
    have hr4 := hhr.2.2.2.1
    refine ar_iload_n 65 rfl d_X4_init_64 rfl ?_
    refine ar_aload_n 66 rfl d_X4_init_65 rfl ?_
    refine ar_getA 69 rfl d_X4_init_66 fl_X4_26 rfl (by assumption) (by assumption) ?_
    refine ar_alen 70 rfl d_X4_init_69 (by assumption) (by omega) ?_
    refine ar_icmp_ge 92 73 rfl rfl d_X4_init_70 (by omega) (by omega) (fun g70 => ?_) (fun g70 => ?_)
    · refine WA.ret none ⟨d_X4_init_92, rfl, rfl⟩ ?_
      have hi17 : i = 17 := by omega
      subst hi17
      obtain ⟨z1, z2, z3, z4, z5, z6, z7⟩ := hhi
      obtain ⟨q1, q2, q3, q4, q5, q6, q7⟩ := hsk
      obtain ⟨w1, w2, w3, w4, w5, w6⟩ := hhr
      refine hQ σi ⟨⟨q1, q2, q3, q4, q5, q6, q7, w1, w2, w3, w4, w5, w6, fun p hp => (hmm p hp).1⟩, ⟨fun j hj => ?_, ⟨0, by omega, z1 1, fun j hj => ?_⟩, z3, z4, fun l hl => ?_, fun l hl => ?_, z1 9, z1 10, z1 6⟩, fun l hl => Or.inl ⟨rfl, z7 l⟩, ⟨by simp [S00], z1 5, fun j hj => ⟨j, hj, (hmm j hj).2⟩, fun j1 j2 h1 h2 e => ?_, fun j M m h1 _ => by simp [S00] at h1⟩⟩ hn hf
      · rw [z2]
        show (0 : Int) = f00 (2 + j)
        unfold f00
        rw [if_neg (by omega), if_neg (by omega)]
      · show f00 (14 + j) = _
        unfold f00
        rw [if_neg (by omega), if_neg (by omega)]
        simp
      · rw [z5]
        show (0 : Int) = f00 (800 + l)
        unfold f00
        rw [if_neg (by omega), if_neg (by omega)]
      · rw [z6]
        show (0 : Int) = f00 (806 + l)
        unfold f00
        rw [if_neg (by omega), if_neg (by omega)]
      · rw [(hmm j1 h1).2, (hmm j2 h2).2] at e
        have := Option.some.inj e
        omega
    · refine ar_aload_n 74 rfl d_X4_init_73 rfl ?_
      refine ar_getA 77 rfl d_X4_init_74 fl_X4_26 rfl (by assumption) (by assumption) ?_
      refine ar_iload_n 78 rfl d_X4_init_77 rfl ?_
      refine ar_newA 1 (s + 7 + 3 * i) (k' - 1) (n' - 8) hn 81 rfl d_X4_init_78 (by decide) kl_X4_24 in_1 ii_1 (by omega) (by show n' - 8 + 8 ≤ n'; omega) ?_
      refine ar_dup 82 rfl d_X4_init_81 (fun _ => rfl) ?_
      refine ar_callIN (M' := mX1_init) (As := []) (ls' := [Va _]) 2 36 (3 * (17 - (i + 1))) (44 * (17 - (i + 1))) 85 rfl d_X4_init_82 ml_X4_36 mt_X1_init rfl (Nat.le_of_ble_eq_true rfl) rfl (Nat.le_of_ble_eq_true rfl) (by omega) (by omega) (by omega) ?_
      refine sp_X1_init (by rw [sk_aA, if_pos rfl]) (sn_aA _ _ _ _) (by omega) (by omega) (by omega) (fun σ1 hm1 hn1 hf1 => ?_)
      have hk4' : sk σ1 (s + 4) = (12, 17) := by rw [(hf1 (s + 4) (by omega)).1, sk_aA, if_neg (by omega)]; exact hk4
      have hg : ∀ b, b < s + 7 + 3 * i → sk σ1 b = sk σi b ∧ hI σ1 b = hI σi b ∧ hR σ1 b = hR σi b := ((FrN.a (Nat.le_refl _)).tr hf1)
      refine ar_aasN (kd := 12) i 86 rfl d_X4_init_85 (by assumption) (by omega) (by omega) (by omega) hm1.1 ?_
      refine ar_inc_1 (y := ((i + 1 : Nat) : Int)) 89 rfl d_X4_init_86 rfl (by intro _ h; cases h) (by omega) ?_
      refine ar_goto 64 rfl d_X4_init_89 ?_
      refine ih (17 - (i + 1)) (by omega) (i + 1) _ _ _ rfl (by omega) (by rw [sn_wR, hn1]; omega) ((hf.tr (FrN.sub hg (by omega))).tr (FrN.wR (by omega))) (Nat.le_refl _) (Nat.le_refl _) ?_ ?_ ?_ ?_
      · simp only [sk_wR]
        rw [(hg s (by omega)).1, (hg (s + 1) (by omega)).1, (hg (s + 2) (by omega)).1, (hg (s + 3) (by omega)).1, (hg (s + 4) (by omega)).1, (hg (s + 5) (by omega)).1, (hg (s + 6) (by omega)).1]
        exact hsk
      · have e : ∀ j, hR (wR σ1 (s + 4) i (some (s + 7 + 3 * i))) s j = hR σi s j := fun j => by rw [hR_w, if_neg (by omega), (hg s (by omega)).2.2]
        rw [e, e, e, e, e, e]
        exact hhr
      · simp only [hIwR]
        have e : ∀ j, hR (wR σ1 (s + 4) i (some (s + 7 + 3 * i))) (s + 3) j = hR σi (s + 3) j := fun j => by rw [hR_w, if_neg (by omega), (hg (s + 3) (by omega)).2.2]
        simp only [e]
        rw [(hg s (by omega)).2.1, (hg (s + 1) (by omega)).2.1, (hg (s + 2) (by omega)).2.1, (hg (s + 5) (by omega)).2.1, (hg (s + 6) (by omega)).2.1]
        exact hhi
      · intro p hp
        by_cases e : p = i
        · subst e
          refine ⟨?_, by rw [hR_w, if_pos ⟨rfl, rfl⟩]⟩
          have := hm1
          unfold ShM at this ⊢
          simp only [sk_wR]
          rw [hR_w, if_neg (by omega), hR_w, if_neg (by omega)]
          exact this
        · have hpi := hmm p (by omega)
          refine ⟨?_, ?_⟩
          · have h3 := hpi.1.frn hg (by omega)
            unfold ShM at h3 ⊢
            simp only [sk_wR]
            rw [hR_w, if_neg (by omega), hR_w, if_neg (by omega)]
            exact h3
          · rw [hR_w, if_neg (by omega), (hg (s + 4) (by omega)).2.2]
            exact hpi.2
  refine ar_aload_n 1 rfl d_X4_init_0 rfl ?_
  refine ar_oinit 4 rfl d_X4_init_1 ml_X4_3 oi_i oi_c (Nat.le_of_ble_eq_true rfl) (by omega) ?_
  refine ar_aload_n 5 rfl d_X4_init_4 rfl ?_
  refine ar_bipush 7 rfl d_X4_init_5 rfl ?_
  refine ar_newIA 12 (s + 1) (k - 1) (n - 12) (by simp [sk_aA, hI_aA, hR_aA, sn_aA, sk_wI, sk_wR, sn_wI, sn_wR, hIwR, hRwI, hI_w, hR_w, hn]) 9 rfl d_X4_init_7 rfl (by omega) (by omega) (by omega) ?_
  refine ar_putRF 12 rfl d_X4_init_9 fl_X4_9 (Or.inr ⟨_, rfl⟩) rfl rfl rfl (by simp [sk_aA, hI_aA, hR_aA, sn_aA, sk_wI, sk_wR, sn_wI, sn_wR, hIwR, hRwI, hI_w, hR_w, hk]) ?_
  refine ar_aload_n 13 rfl d_X4_init_12 rfl ?_
  refine ar_iconst 14 rfl d_X4_init_13 ?_
  refine ar_newIA 2 (s + 2) (k - 2) (n - 14) (by simp [sk_aA, hI_aA, hR_aA, sn_aA, sk_wI, sk_wR, sn_wI, sn_wR, hIwR, hRwI, hI_w, hR_w, hn]) 16 rfl d_X4_init_14 rfl (by omega) (by omega) (by omega) ?_
  refine ar_dup 17 rfl d_X4_init_16 (fun _ => rfl) ?_
  refine ar_iconst 18 rfl d_X4_init_17 ?_
  refine ar_bipush 20 rfl d_X4_init_18 rfl ?_
  refine ar_iasN 0 21 rfl d_X4_init_20 (by simp [sk_aA, hI_aA, hR_aA, sn_aA, sk_wI, sk_wR, sn_wI, sn_wR, hIwR, hRwI, hI_w, hR_w] : _ = (10, 2)) (by omega) (by omega) ?_
  refine ar_dup 22 rfl d_X4_init_21 (fun _ => rfl) ?_
  refine ar_iconst 23 rfl d_X4_init_22 ?_
  refine ar_iconst 24 rfl d_X4_init_23 ?_
  refine ar_iasN 1 25 rfl d_X4_init_24 (by simp [sk_aA, hI_aA, hR_aA, sn_aA, sk_wI, sk_wR, sn_wI, sn_wR, hIwR, hRwI, hI_w, hR_w] : _ = (10, 2)) (by omega) (by omega) ?_
  refine ar_putRF 28 rfl d_X4_init_25 fl_X4_15 (Or.inr ⟨_, rfl⟩) rfl rfl rfl (by simp [sk_aA, hI_aA, hR_aA, sn_aA, sk_wI, sk_wR, sn_wI, sn_wR, hIwR, hRwI, hI_w, hR_w, hk]) ?_
  refine ar_aload_n 29 rfl d_X4_init_28 rfl ?_
  refine ar_bipush 31 rfl d_X4_init_29 rfl ?_
  refine ar_anewA 14 6 (s + 3) (k - 3) (n - 20) (by simp [sk_aA, hI_aA, hR_aA, sn_aA, sk_wI, sk_wR, sn_wI, sn_wR, hIwR, hRwI, hI_w, hR_w, hn]) 34 rfl d_X4_init_31 (by omega) kl_X4_18 rfl (by omega) (by omega) (by omega) ?_
  refine ar_putRF 37 rfl d_X4_init_34 fl_X4_20 (Or.inr ⟨_, rfl⟩) rfl rfl rfl (by simp [sk_aA, hI_aA, hR_aA, sn_aA, sk_wI, sk_wR, sn_wI, sn_wR, hIwR, hRwI, hI_w, hR_w, hk]) ?_
  refine ar_aload_n 38 rfl d_X4_init_37 rfl ?_
  refine ar_bipush 40 rfl d_X4_init_38 rfl ?_
  refine ar_anewA 12 17 (s + 4) (k - 4) (n - 37) (by simp [sk_aA, hI_aA, hR_aA, sn_aA, sk_wI, sk_wR, sn_wI, sn_wR, hIwR, hRwI, hI_w, hR_w, hn]) 43 rfl d_X4_init_40 (by omega) kl_X4_24 rfl (by omega) (by omega) (by omega) ?_
  refine ar_putRF 46 rfl d_X4_init_43 fl_X4_26 (Or.inr ⟨_, rfl⟩) rfl rfl rfl (by simp [sk_aA, hI_aA, hR_aA, sn_aA, sk_wI, sk_wR, sn_wI, sn_wR, hIwR, hRwI, hI_w, hR_w, hk]) ?_
  refine ar_aload_n 47 rfl d_X4_init_46 rfl ?_
  refine ar_bipush 49 rfl d_X4_init_47 rfl ?_
  refine ar_newIA 6 (s + 5) (k - 5) (n - 43) (by simp [sk_aA, hI_aA, hR_aA, sn_aA, sk_wI, sk_wR, sn_wI, sn_wR, hIwR, hRwI, hI_w, hR_w, hn]) 51 rfl d_X4_init_49 rfl (by omega) (by omega) (by omega) ?_
  refine ar_putRF 54 rfl d_X4_init_51 fl_X4_30 (Or.inr ⟨_, rfl⟩) rfl rfl rfl (by simp [sk_aA, hI_aA, hR_aA, sn_aA, sk_wI, sk_wR, sn_wI, sn_wR, hIwR, hRwI, hI_w, hR_w, hk]) ?_
  refine ar_aload_n 55 rfl d_X4_init_54 rfl ?_
  refine ar_bipush 57 rfl d_X4_init_55 rfl ?_
  refine ar_newIA 6 (s + 6) (k - 6) (n - 49) (by simp [sk_aA, hI_aA, hR_aA, sn_aA, sk_wI, sk_wR, sn_wI, sn_wR, hIwR, hRwI, hI_w, hR_w, hn]) 59 rfl d_X4_init_57 rfl (by omega) (by omega) (by omega) ?_
  refine ar_putRF 62 rfl d_X4_init_59 fl_X4_33 (Or.inr ⟨_, rfl⟩) rfl rfl rfl (by simp [sk_aA, hI_aA, hR_aA, sn_aA, sk_wI, sk_wR, sn_wI, sn_wR, hIwR, hRwI, hI_w, hR_w, hk]) ?_
  refine ar_iconst 63 rfl d_X4_init_62 ?_
  refine ar_ist_1 64 rfl d_X4_init_63 rfl (by intro _ h; cases h) ?_
  refine loop 17 0 _ _ _ rfl (by omega) rfl ?_ (by omega) (by omega) ?_ ?_ ?_ (fun p hp => absurd hp (by omega))
  · exact (((((((((((((FrN.a (by omega)).tr (FrN.wR (by omega))).tr (FrN.a (by omega))).tr (FrN.wI (by omega))).tr (FrN.wI (by omega))).tr (FrN.wR (by omega))).tr (FrN.a (by omega))).tr (FrN.wR (by omega))).tr (FrN.a (by omega))).tr (FrN.wR (by omega))).tr (FrN.a (by omega))).tr (FrN.wR (by omega))).tr (FrN.a (by omega))).tr (FrN.wR (by omega))
  · simp [sk_aA, hI_aA, hR_aA, sn_aA, sk_wI, sk_wR, sn_wI, sn_wR, hIwR, hRwI, hI_w, hR_w, hk]
  · simp [sk_aA, hI_aA, hR_aA, sn_aA, sk_wI, sk_wR, sn_wI, sn_wR, hIwR, hRwI, hI_w, hR_w]
  · simp [sk_aA, hI_aA, hR_aA, sn_aA, sk_wI, sk_wR, sn_wI, sn_wR, hIwR, hRwI, hI_w, hR_w, hz]
end INI
