theorem fa_and (a b : Nat) : nI a &&& nI b = nI (a &&& b) := by
  apply Int32.toBitVec_inj.1
  show BitVec.ofNat 32 a &&& BitVec.ofNat 32 b = BitVec.ofNat 32 (a &&& b)
  apply BitVec.eq_of_getLsbD_eq
  intro i hi
  simp [hi]
theorem fa_or (a b : Nat) : nI a ||| nI b = nI (a ||| b) := by
  apply Int32.toBitVec_inj.1
  show BitVec.ofNat 32 a ||| BitVec.ofNat 32 b = BitVec.ofNat 32 (a ||| b)
  apply BitVec.eq_of_getLsbD_eq
  intro i hi
  simp [hi]
theorem nx_cnt : ∀ j : Fin 32, (UInt32.ofNat j.val &&& Int32.toUInt32 31).toNat % 32 = j.val := by decide +kernel
theorem nx_xor (a b : Nat) : nI a ^^^ nI b = nI (a ^^^ b) := by
  apply Int32.toBitVec_inj.1
  show BitVec.ofNat 32 a ^^^ BitVec.ofNat 32 b = BitVec.ofNat 32 (a ^^^ b)
  apply BitVec.eq_of_getLsbD_eq
  intro i hi
  simp [hi]
theorem nx_ush {k j : Nat} (hk : k < 65536) (hj : j < 32) : ((nI k).toUInt32 >>> ((nI j).toUInt32 &&& Int32.toUInt32 31)).toInt32 = nI (k >>> j) := by
  have hs : k >>> j ≤ k := by
    rw [Nat.shiftRight_eq_div_pow]
    exact Nat.div_le_self _ _
  have e2 : UInt32.ofNat k >>> (UInt32.ofNat j &&& Int32.toUInt32 31) = UInt32.ofNat (k >>> j) := by
    apply UInt32.toNat_inj.1
    have h1 : (UInt32.ofNat k).toNat = k := Nat.mod_eq_of_lt (by omega)
    have h2 : (UInt32.ofNat (k >>> j)).toNat = k >>> j := Nat.mod_eq_of_lt (by omega)
    rw [UInt32.toNat_shiftRight, nx_cnt ⟨j, hj⟩, h1, h2]
  show (UInt32.ofNat k >>> (UInt32.ofNat j &&& Int32.toUInt32 31)).toInt32 = _
  rw [e2]
  rfl
-- bits
theorem on_I (a : Nat) : Int32.ofInt (a : Int) = nI a := Int32.ofInt_eq_ofNat
theorem iOr_n {a b : Nat} (ha : a < 2 ^ 31) (hb : b < 2 ^ 31) : iOr (a : Int) (b : Int) = ((a ||| b : Nat) : Int) := by
  unfold iOr
  rw [on_I, on_I, fa_or, nI_toInt (Nat.or_lt_two_pow ha hb)]
theorem iAn_n {a b : Nat} (ha : a < 2 ^ 31) : iAn (a : Int) (b : Int) = ((a &&& b : Nat) : Int) := by
  unfold iAn
  rw [on_I, on_I, fa_and, nI_toInt (Nat.lt_of_le_of_lt Nat.and_le_left ha)]
theorem iSl_1 : ∀ k : Nat, k < 31 → iSl 1 (k : Int) = ((2 ^ k : Nat) : Int) := by decide +kernel
theorem iSl_0 : ∀ k : Nat, k < 31 → iSl 0 (k : Int) = 0 := by decide +kernel
theorem iUs_n {a j : Nat} (ha : a < 65536) (hj : j < 32) : iUs (a : Int) (j : Int) = ((a >>> j : Nat) : Int) := by
  have hs : a >>> j ≤ a := by
    rw [Nat.shiftRight_eq_div_pow]
    exact Nat.div_le_self _ _
  unfold iUs
  rw [on_I, on_I, nx_ush ha hj, nI_toInt (by omega)]
theorem bit_n {a j : Nat} (ha : a < 65536) (hj : j < 32) : iAn (iUs (a : Int) (j : Int)) 1 = if a.testBit j = true then 1 else 0 := by
  have hs : a >>> j ≤ a := by
    rw [Nat.shiftRight_eq_div_pow]
    exact Nat.div_le_self _ _
  rw [iUs_n ha hj, show (1 : Int) = ((1 : Nat) : Int) from rfl, iAn_n (by omega), Nat.and_one_is_mod]
  rw [Nat.testBit, Nat.one_and_eq_mod_two]
  rcases Nat.mod_two_eq_zero_or_one (a >>> j) with e | e <;> rw [e] <;> rfl
theorem clr_n {p s : Nat} (hp : p < 4096) (hs : s < 12) : iAn (p : Int) (iXr (iSl 1 (s : Int)) (-1)) = ((p &&& (2 ^ s ^^^ 4294967295) : Nat) : Int) := by
  have e1 : (-1 : Int32) = nI 4294967295 := by decide +kernel
  have e2 : Int32.ofInt (-1) = nI 4294967295 := by decide +kernel
  unfold iAn iXr
  rw [iSl_1 s (by omega), on_I, on_I, e2, nx_xor, Int32.ofInt_toInt, fa_and, nI_toInt (Nat.lt_of_le_of_lt Nat.and_le_left (by omega))]
theorem clr_b {p s i : Nat} (hi : i < 32) : (p &&& (2 ^ s ^^^ 4294967295)).testBit i = (p.testBit i && !(decide (s = i))) := by
  rw [Nat.testBit_and, Nat.testBit_xor, Nat.testBit_two_pow, show (4294967295 : Nat) = 2 ^ 32 - 1 from rfl, Nat.testBit_two_pow_sub_one]
  simp [hi]
section BITM
variable {G : GT} {d k n : Nat} {σ : Sg} {Q : Option AV → Sg → Prop}
theorem sp_X5_bitOf {a j : Nat} (ha : a < 65536) (hj : j < 32) (hQ : Q (some (Vi (if a.testBit j = true then 1 else 0))) σ) : WA G d k n mX5_bitOf 0 [Vi (a : Int), Vi (j : Int)] [] σ Q := by
  refine ar_iload_n 1 rfl d_X5_bitOf_0 rfl ?_
  refine ar_iload_n 2 rfl d_X5_bitOf_1 rfl ?_
  refine ar_iushr 3 rfl d_X5_bitOf_2 ?_
  refine ar_iconst 4 rfl d_X5_bitOf_3 ?_
  refine ar_iand 5 rfl d_X5_bitOf_4 ?_
  refine WA.ret (some (Vi _)) ⟨d_X5_bitOf_5, rfl, Or.inl rfl⟩ ?_
  rw [bit_n ha hj]
  exact hQ
def flI (σ : Sg) (a n : Nat) (v : Int) : Sg := (fun b i => if b = a ∧ i < n then v else σ.1 b i, σ.2)
theorem flI_0 (σ : Sg) (a : Nat) (v : Int) : flI σ a 0 v = σ := by
  unfold flI
  refine Prod.ext ?_ rfl
  funext b i
  exact if_neg (by omega)
theorem flI_s (σ : Sg) (a i : Nat) (v : Int) : wI (flI σ a i v) a i v = flI σ a (i + 1) v := by
  unfold flI wI
  refine Prod.ext ?_ rfl
  funext b j
  show (if b = a ∧ j = i then v else if b = a ∧ j < i then v else σ.1 b j) = (if b = a ∧ j < i + 1 then v else σ.1 b j)
  by_cases e : b = a ∧ j = i
  · rw [if_pos e, if_pos (by omega)]
  · rw [if_neg e]
    by_cases e2 : b = a ∧ j < i
    · rw [if_pos e2, if_pos (by omega)]
    · rw [if_neg e2, if_neg (by omega)]
theorem sp_J7_fill_53178 {a N : Nat} {v : Int} (ha : sk σ a = (10, N)) (hN : N ≤ 1000) (hQ : Q none (flI σ a N v)) : WA G d k n mJ7_fill_53178 0 [Va a, Vi v, Vu, Vu] [] σ Q := by
  have loop : ∀ r i : Nat, N - i = r → i ≤ N → WA G d k n mJ7_fill_53178 5 [Va a, Vi v, Vi (i : Int), Vi (N : Int)] [] (flI σ a i v) Q := by
    intro r
    induction r using Nat.strongRecOn with
    | ind r ih =>
    intro i hr hi
    have ha' : sk (flI σ a i v) a = (10, N) := ha
    refine ar_iload_n 6 rfl d_J7_fill_53178_5 rfl ?_
    refine ar_iload_n 7 rfl d_J7_fill_53178_6 rfl ?_
    refine ar_icmp_ge 20 10 rfl rfl d_J7_fill_53178_7 (by omega) (by omega) (fun g7 => ?_) (fun g7 => ?_)
    · refine WA.ret none ⟨d_J7_fill_53178_20, rfl, rfl⟩ ?_
      rw [show i = N by omega]
      exact hQ
    · refine ar_aload_n 11 rfl d_J7_fill_53178_10 rfl ?_
      refine ar_iload_n 12 rfl d_J7_fill_53178_11 rfl ?_
      refine ar_iload_n 13 rfl d_J7_fill_53178_12 rfl ?_
      refine ar_iasN i 14 rfl d_J7_fill_53178_13 (by assumption) (by omega) (by omega) ?_
      refine ar_inc_2 (y := ((i + 1 : Nat) : Int)) 17 rfl d_J7_fill_53178_14 rfl (by intro _ h; cases h) (by omega) ?_
      refine ar_goto 5 rfl d_J7_fill_53178_17 ?_
      refine ar_sig (flI_s σ a i v) ?_
      exact ih (N - (i + 1)) (by omega) (i + 1) rfl (by omega)
  refine ar_iconst 1 rfl d_J7_fill_53178_0 ?_
  refine ar_ist_2 2 rfl d_J7_fill_53178_1 rfl (by intro _ h; cases h) ?_
  refine ar_aload_n 3 rfl d_J7_fill_53178_2 rfl ?_
  refine ar_alen 4 rfl d_J7_fill_53178_3 (by assumption) (by omega) ?_
  refine ar_ist_3 5 rfl d_J7_fill_53178_4 rfl (by intro _ h; cases h) ?_
  have h9 := loop _ 0 rfl (by omega)
  rw [flI_0] at h9
  exact h9
theorem sp_J7_copyOf_59c91 {a N m k0 n0 : Nat} (ha : sk σ a = (10, N)) (hN : N ≤ 1000) (hm : m < N) (hk : k0 + 1 ≤ k) (hn : n0 + m ≤ n) (hdp : 1 ≤ d) (hlt : a < sn σ) (hQ : Q (some (Va (sn σ))) (cI (al σ 10 m) a 0 (sn σ) 0 m)) : WA G d k n mJ7_copyOf_59c91 0 [Va a, Vi (m : Int), Vu] [] σ Q := by
  have ha2 : sk (al σ 10 m) a = (10, N) := by
    show (if a = sn σ then _ else sk σ a) = _
    rw [if_neg (by omega)]
    exact ha
  have hb2 : sk (al σ 10 m) (sn σ) = (10, m) := by
    show (if sn σ = sn σ then _ else sk σ _) = _
    rw [if_pos rfl]
  refine ar_iload_n 1 rfl d_J7_copyOf_59c91_0 rfl ?_
  refine ar_aload_n 2 rfl d_J7_copyOf_59c91_1 rfl ?_
  refine ar_alen 3 rfl d_J7_copyOf_59c91_2 (by assumption) (by omega) ?_
  refine ar_icmp_ne 14 6 rfl rfl d_J7_copyOf_59c91_3 (by omega) (by omega) (fun g3 => ?_) (fun h => by omega)
  refine ar_iload_n 15 rfl d_J7_copyOf_59c91_14 rfl ?_
  refine ar_newI m k0 n0 17 rfl d_J7_copyOf_59c91_15 rfl (by omega) ac_I hk hn ?_
  refine ar_ast_2 18 rfl d_J7_copyOf_59c91_17 rfl (by intro _ h; cases h) ?_
  refine ar_aload_n 19 rfl d_J7_copyOf_59c91_18 rfl ?_
  refine ar_iconst 20 rfl d_J7_copyOf_59c91_19 ?_
  refine ar_aload_n 21 rfl d_J7_copyOf_59c91_20 rfl ?_
  refine ar_iconst 22 rfl d_J7_copyOf_59c91_21 ?_
  refine ar_aload_n 23 rfl d_J7_copyOf_59c91_22 rfl ?_
  refine ar_alen 24 rfl d_J7_copyOf_59c91_23 (by assumption) (by omega) ?_
  refine ar_iload_n 25 rfl d_J7_copyOf_59c91_24 rfl ?_
  refine ar_min 28 rfl d_J7_copyOf_59c91_25 mx_J7_304 (by omega) (by omega) (Nat.le_of_ble_eq_true rfl) (by omega) ?_
  refine ar_top (y := (m : Int)) (by rw [if_pos (by omega)]) ?_
  refine ar_copyI 31 rfl d_J7_copyOf_59c91_28 cp_J7_150 (by assumption) (by assumption) (by omega) (Nat.le_of_ble_eq_true rfl) (by omega) ?_
  refine ar_aload_n 32 rfl d_J7_copyOf_59c91_31 rfl ?_
  refine WA.ret (some (Vr _)) ⟨d_J7_copyOf_59c91_32, rfl, Or.inr ⟨_, rfl⟩⟩ ?_
  exact hQ
end BITM
-- ===== recipes =====
abbrev Rcpe : Type := List (Int × Int)
def cParts (c : Rcpe) : Int := ((c.filter (fun x => !(x.1 == 6))).length : Int)
def cSh : Rcpe → Nat
  | [] => 0
  | x :: t => (if x.1 = 0 ∧ x.2 < 20 then 2 ^ x.2.toNat else 0) ||| cSh t
def cLo : Rcpe → Nat
  | [] => 0
  | x :: t => (if x.1 = 0 ∧ 20 ≤ x.2 then 2 ^ (x.2 - 20).toNat else 0) ||| cLo t
/-- a recipe's object: its two rows behind it -/
def RRec (σ : Sg) (r : Nat) (c : Rcpe) : Prop := (sk σ r).1 = 4 ∧ hR σ r 0 = some (r + 1) ∧ hR σ r 1 = some (r + 2) ∧ sk σ (r + 1) = (10, c.length) ∧ sk σ (r + 2) = (10, c.length) ∧ hI σ r 2 = (c.length : Int) ∧ hI σ r 3 = cParts c ∧ hI σ r 4 = ((cSh c : Nat) : Int) ∧ hI σ r 5 = ((cLo c : Nat) : Int) ∧ ∀ i x, c[i]? = some x → hI σ (r + 1) i = x.1 ∧ hI σ (r + 2) i = x.2
def RSr (σ : Sg) (s : Nat) (rc : Nat → Rcpe) : Prop := ∀ l, l < 6 → (rc l = [] ∧ hR σ (s + 3) l = none) ∨ (rc l ≠ [] ∧ ∃ r, 652 ≤ r ∧ r + 3 ≤ sn σ ∧ hR σ (s + 3) l = some r ∧ RRec σ r (rc l))
/-- a state's numbers, by the reference's places -/
def RSf (σ : Sg) (s : Nat) (f : Nat → Int) : Prop := (∀ i, i < 12 → hI σ (s + 1) i = f (2 + i)) ∧ (∃ pm : Nat, pm < 4096 ∧ hI σ s 1 = (pm : Int) ∧ ∀ i, i < 12 → f (14 + i) = if pm.testBit i = true then 1 else 0) ∧ hI σ (s + 2) 0 = f 0 ∧ hI σ (s + 2) 1 = f 1 ∧ (∀ l, l < 6 → hI σ (s + 5) l = f (800 + l)) ∧ (∀ l, l < 6 → hI σ (s + 6) l = f (806 + l)) ∧ hI σ s 9 = f 812 ∧ hI σ s 10 = f 813 ∧ hI σ s 6 = f 815
abbrev SS : Type := (Nat → Int) × List Mem × (Nat → Rcpe)
def RSt (σ : Sg) (s : Nat) (S : SS) : Prop := ShS σ s ∧ RSf σ s S.1 ∧ RSr σ s S.2.2 ∧ RSm σ s S.2.1
/-- what lies outside the cells of a state stays -/
def FrS (s : Nat) (σ σ' : Sg) : Prop := sk σ' = sk σ ∧ sn σ' = sn σ ∧ ∀ b, (b < s ∨ s + 58 ≤ b) → hI σ' b = hI σ b ∧ hR σ' b = hR σ b
theorem FrS.rf {s : Nat} {σ : Sg} : FrS s σ σ := ⟨rfl, rfl, fun _ _ => ⟨rfl, rfl⟩⟩
theorem FrS.tr {s : Nat} {σ σ1 σ2 : Sg} (h : FrS s σ σ1) (h2 : FrS s σ1 σ2) : FrS s σ σ2 := ⟨h2.1.trans h.1, h2.2.1.trans h.2.1, fun b hb => ⟨(h2.2.2 b hb).1.trans (h.2.2 b hb).1, (h2.2.2 b hb).2.trans (h.2.2 b hb).2⟩⟩
theorem FrS.m {s : Nat} {σ σ' : Sg} (h : FrM s σ σ') : FrS s σ σ' := ⟨h.1, h.2.1, fun b hb => ⟨h.2.2.2.1 b (by omega), h.2.2.1 b (by omega)⟩⟩
theorem FrS.i {s lo hi : Nat} {σ σ' : Sg} (h : FrI lo hi σ σ') (h1 : s ≤ lo) (h2 : hi ≤ s + 58) : FrS s σ σ' := by
  obtain ⟨e, f⟩ := h
  refine ⟨?_, ?_, fun b hb => ⟨f b (by omega), ?_⟩⟩
  · show σ'.2.2.1 = _
    rw [e]
  · show σ'.2.2.2 = _
    rw [e]
  · show σ'.2.1 b = _
    rw [e]
theorem FrS.wR {s : Nat} {σ : Sg} {a j : Nat} {r : Option Nat} (h : s ≤ a ∧ a < s + 58) : FrS s σ (wR σ a j r) := ⟨rfl, rfl, fun b hb => ⟨rfl, by
  funext i
  rw [hR_w, if_neg (by omega)]⟩⟩
theorem hR_c (σ : Sg) (a sp b dp n c i : Nat) : hR (cR σ a sp b dp n) c i = if c = b ∧ dp ≤ i ∧ i < dp + n then hR σ a (sp + (i - dp)) else hR σ c i := rfl
theorem FrS.cR {s : Nat} {σ : Sg} {a sp b dp n : Nat} (h : s ≤ b ∧ b < s + 58) : FrS s σ (cR σ a sp b dp n) := ⟨rfl, rfl, fun c hc => ⟨rfl, by
  funext i
  rw [hR_c, if_neg (by omega)]⟩⟩
theorem RRec.fr {σ σ' : Sg} {r : Nat} {c : Rcpe} (h : RRec σ r c) (h1 : ∀ b, (r ≤ b ∧ b < r + 3) → sk σ' b = sk σ b ∧ hI σ' b = hI σ b ∧ hR σ' b = hR σ b) : RRec σ' r c := by
  have e0 := h1 r (by omega)
  have e1 := h1 (r + 1) (by omega)
  have e2 := h1 (r + 2) (by omega)
  unfold RRec at h ⊢
  rw [e0.1, e0.2.1, e0.2.2, e1.1, e1.2.1, e2.1, e2.2.1]
  exact h
theorem RSr.fr {σ σ' : Sg} {s s' : Nat} {rc : Nat → Rcpe} (h : RSr σ s rc) (h1 : ∀ b, 652 ≤ b → b < sn σ → sk σ' b = sk σ b ∧ hI σ' b = hI σ b ∧ hR σ' b = hR σ b) (h2 : ∀ l, l < 6 → hR σ' (s' + 3) l = hR σ (s + 3) l) (hn : sn σ ≤ sn σ') : RSr σ' s' rc := by
  intro l hl
  rw [h2 l hl]
  rcases h l hl with e | ⟨e, r, h3, h4, h5, h6⟩
  · exact Or.inl e
  · exact Or.inr ⟨e, r, h3, by omega, h5, h6.fr (fun b hb => h1 b (by omega) (by omega))⟩
theorem RSf.fr {σ σ' : Sg} {s : Nat} {f : Nat → Int} (h : RSf σ s f) (h1 : ∀ j, j ≠ 5 → hI σ' s j = hI σ s j) (h2 : ∀ b, (s < b ∧ b < s + 7) → hI σ' b = hI σ b) : RSf σ' s f := by
  unfold RSf at h ⊢
  rw [h1 1 (by omega), h1 9 (by omega), h1 10 (by omega), h1 6 (by omega), h2 (s + 1) (by omega), h2 (s + 2) (by omega), h2 (s + 5) (by omega), h2 (s + 6) (by omega)]
  exact h
theorem ShS.fr {σ σ' : Sg} {s : Nat} (h : ShS σ s) (e1 : sk σ' = sk σ) (e2 : ∀ b, (s = b ∨ s + 7 ≤ b) → b < s + 58 → hR σ' b = hR σ b) : ShS σ' s := by
  obtain ⟨h1, h2, h3, h4, h5, h6, h7, h8, h9, h10, h11, h12, h13, h14⟩ := h
  have e := e2 s (by omega) (by omega)
  refine ⟨?_, ?_, ?_, ?_, ?_, ?_, ?_, ?_, ?_, ?_, ?_, ?_, ?_, fun p hp => ?_⟩
  iterate 7 (rw [e1]; assumption)
  iterate 6 (rw [e]; assumption)
  have := h14 p hp
  unfold ShM at this ⊢
  rw [e1, e2 _ (by omega) (by omega)]
  exact this
/-- a state that the change doesn't touch -/
theorem RSt.fr {σ σ' : Sg} {s : Nat} {S : SS} (h : RSt σ s S) (h1 : ∀ b, ((s ≤ b ∧ b < s + 58) ∨ 652 ≤ b) → b < sn σ → sk σ' b = sk σ b ∧ hI σ' b = hI σ b ∧ hR σ' b = hR σ b) (hs : s + 58 ≤ sn σ) (hn : sn σ ≤ sn σ') : RSt σ' s S := by
  obtain ⟨a, b, c, e⟩ := h
  have g : ∀ b, (s ≤ b ∧ b < s + 58) → sk σ' b = sk σ b ∧ hI σ' b = hI σ b ∧ hR σ' b = hR σ b := fun b hb => h1 b (Or.inl hb) (by omega)
  refine ⟨?_, b.fr (fun j _ => by rw [(g s (by omega)).2.1]) (fun b hb => (g b (by omega)).2.1), c.fr (fun b hb hb2 => h1 b (Or.inr hb) hb2) (fun l _ => by rw [(g (s + 3) (by omega)).2.2]) hn, e.frm0 (fun b hb => (g b hb).2.1) (g (s + 4) (by omega)).2.2⟩
  obtain ⟨h1, h2, h3, h4, h5, h6, h7, h8, h9, h10, h11, h12, h13, h14⟩ := a
  have e := (g s (by omega)).2.2
  refine ⟨?_, ?_, ?_, ?_, ?_, ?_, ?_, ?_, ?_, ?_, ?_, ?_, ?_, fun p hp => ?_⟩
  iterate 7 (rw [(g _ (by omega)).1]; assumption)
  iterate 6 (rw [e]; assumption)
  have := h14 p hp
  unfold ShM at this ⊢
  rw [(g _ (by omega)).1, (g _ (by omega)).1, (g _ (by omega)).1, (g _ (by omega)).2.2]
  exact this
