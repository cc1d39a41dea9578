theorem ui_0 : ∀ w ∈ u_ws RX0 TX0 7, w ∈ gT := by
  have h : u_ws RX0 TX0 7 = ([148, 150, 152, 154, 156, 158, 160] : List Nat).filterMap (fun i => tables_1[i]?) := by decide +kernel
  intro w hw
  have hg : (u_ws RX0 TX0 7).all goodWord = true := by decide +kernel
  have h1 := List.all_eq_true.mp hg w hw
  rw [h] at hw
  obtain ⟨i, -, hi⟩ := List.mem_filterMap.mp hw
  exact gT_in i hi h1
theorem ui_1 : ∀ w ∈ u_ws RX1 TX1 8, w ∈ gT := by
  have h : u_ws RX1 TX1 8 = ([59, 61, 63, 65, 67, 69, 71, 73] : List Nat).filterMap (fun i => tables_1[i]?) := by decide +kernel
  intro w hw
  have hg : (u_ws RX1 TX1 8).all goodWord = true := by decide +kernel
  have h1 := List.all_eq_true.mp hg w hw
  rw [h] at hw
  obtain ⟨i, -, hi⟩ := List.mem_filterMap.mp hw
  exact gT_in i hi h1
theorem ui_2 : ∀ w ∈ u_ws RX2 TX2 10, w ∈ gT := by
  have h : u_ws RX2 TX2 10 = ([187, 189, 191, 193, 195, 197, 199, 201, 203, 205] : List Nat).filterMap (fun i => tables_1[i]?) := by decide +kernel
  intro w hw
  have hg : (u_ws RX2 TX2 10).all goodWord = true := by decide +kernel
  have h1 := List.all_eq_true.mp hg w hw
  rw [h] at hw
  obtain ⟨i, -, hi⟩ := List.mem_filterMap.mp hw
  exact gT_in i hi h1
theorem ui_3 : ∀ w ∈ u_ws RX3 TX3 6, w ∈ gT := by
  have h : u_ws RX3 TX3 6 = ([518, 520, 522, 524, 526, 528] : List Nat).filterMap (fun i => tables_1[i]?) := by decide +kernel
  intro w hw
  have hg : (u_ws RX3 TX3 6).all goodWord = true := by decide +kernel
  have h1 := List.all_eq_true.mp hg w hw
  rw [h] at hw
  obtain ⟨i, -, hi⟩ := List.mem_filterMap.mp hw
  exact gT_in i hi h1
theorem ui_4 : ∀ w ∈ u_ws RX4 TX4 11, w ∈ gT := by
  have h : u_ws RX4 TX4 11 = ([107, 109, 111, 113, 115, 117, 119, 121, 123, 125, 127] : List Nat).filterMap (fun i => tables_1[i]?) := by decide +kernel
  intro w hw
  have hg : (u_ws RX4 TX4 11).all goodWord = true := by decide +kernel
  have h1 := List.all_eq_true.mp hg w hw
  rw [h] at hw
  obtain ⟨i, -, hi⟩ := List.mem_filterMap.mp hw
  exact gT_in i hi h1
theorem ui_5 : ∀ w ∈ u_ws RX5 TX5 10, w ∈ gT := by
  have h : u_ws RX5 TX5 10 = ([218, 220, 222, 224, 226, 228, 230, 232, 234, 236] : List Nat).filterMap (fun i => tables_1[i]?) := by decide +kernel
  intro w hw
  have hg : (u_ws RX5 TX5 10).all goodWord = true := by decide +kernel
  have h1 := List.all_eq_true.mp hg w hw
  rw [h] at hw
  obtain ⟨i, -, hi⟩ := List.mem_filterMap.mp hw
  exact gT_in i hi h1
theorem ui_6 : ∀ w ∈ u_ws RX6 TX6 33, w ∈ gT := by
  have h : u_ws RX6 TX6 33 = ([658, 660, 662, 664, 666, 668, 670, 672, 674, 676, 678, 680, 682, 684, 686, 688, 690, 692, 694, 696, 698, 700, 702, 704, 706, 708, 710, 712, 714, 716, 718, 720, 722] : List Nat).filterMap (fun i => tables_1[i]?) := by decide +kernel
  intro w hw
  have hg : (u_ws RX6 TX6 33).all goodWord = true := by decide +kernel
  have h1 := List.all_eq_true.mp hg w hw
  rw [h] at hw
  obtain ⟨i, -, hi⟩ := List.mem_filterMap.mp hw
  exact gT_in i hi h1
theorem ci_c {P : Nat → Prop} {ci : Nat} (h : ci < 7) (h0 : P 0) (h1 : P 1) (h2 : P 2) (h3 : P 3) (h4 : P 4) (h5 : P 5) (h6 : P 6) : P ci := by
  rcases (by omega : ci = 0 ∨ ci = 1 ∨ ci = 2 ∨ ci = 3 ∨ ci = 4 ∨ ci = 5 ∨ ci = 6) with rfl | rfl | rfl | rfl | rfl | rfl | rfl <;> assumption
theorem cls_at {ci : Nat} (h : ci < 7) : cls[ci]? = some ((cT ci).1, (cT ci).2.1, (cT ci).2.2) := ci_c (P := fun ci => cls[ci]? = some ((cT ci).1, (cT ci).2.1, (cT ci).2.2)) h rfl rfl rfl rfl rfl rfl rfl
theorem cls_in {ci : Nat} (h : ci < 7) : ∀ w ∈ u_ws (cT ci).1 (cT ci).2.1 (cT ci).2.2, w ∈ gT := ci_c (P := fun ci => ∀ w ∈ u_ws (cT ci).1 (cT ci).2.1 (cT ci).2.2, w ∈ gT) h ui_0 ui_1 ui_2 ui_3 ui_4 ui_5 ui_6
theorem cls_ty {ci : Nat} (h : ci < 7) : ∀ k, k < (cT ci).2.2 → parseFieldDescriptor ((cT ci).2.1 k).2.2.1 = some (cY ci k) := ci_c (P := fun ci => ∀ k, k < (cT ci).2.2 → parseFieldDescriptor ((cT ci).2.1 k).2.2.1 = some (cY ci k)) h tyX0_ok tyX1_ok tyX2_ok tyX3_ok tyX4_ok tyX5_ok tyX6_ok
theorem cls_nm {ci : Nat} (h : ci < 7) : ∀ a, a < (cT ci).2.2 → ∀ b, b < (cT ci).2.2 → a ≠ b → ((cT ci).2.1 a).2.1 ≠ ((cT ci).2.1 b).2.1 := ci_c (P := fun ci => ∀ a, a < (cT ci).2.2 → ∀ b, b < (cT ci).2.2 → a ≠ b → ((cT ci).2.1 a).2.1 ≠ ((cT ci).2.1 b).2.1) h nmX0 nmX1 nmX2 nmX3 nmX4 nmX5 nmX6
theorem dv_0 : ∀ j, j < 7 → defaultValue (tyX0 j) = if fI (tyX0 j) = true then .int 0 else .null := by decide +kernel
theorem dv_1 : ∀ j, j < 8 → defaultValue (tyX1 j) = if fI (tyX1 j) = true then .int 0 else .null := by decide +kernel
theorem dv_2 : ∀ j, j < 10 → defaultValue (tyX2 j) = if fI (tyX2 j) = true then .int 0 else .null := by decide +kernel
theorem dv_3 : ∀ j, j < 6 → defaultValue (tyX3 j) = if fI (tyX3 j) = true then .int 0 else .null := by decide +kernel
theorem dv_4 : ∀ j, j < 11 → defaultValue (tyX4 j) = if fI (tyX4 j) = true then .int 0 else .null := by decide +kernel
theorem dv_5 : ∀ j, j < 10 → defaultValue (tyX5 j) = if fI (tyX5 j) = true then .int 0 else .null := by decide +kernel
theorem dv_6 : ∀ j, j < 33 → defaultValue (tyX6 j) = if fI (tyX6 j) = true then .int 0 else .null := by decide +kernel
theorem cls_dv {ci : Nat} (h : ci < 7) : ∀ j, j < (cT ci).2.2 → defaultValue (cY ci j) = if fI (cY ci j) = true then .int 0 else .null := ci_c (P := fun ci => ∀ j, j < (cT ci).2.2 → defaultValue (cY ci j) = if fI (cY ci j) = true then .int 0 else .null) h dv_0 dv_1 dv_2 dv_3 dv_4 dv_5 dv_6
-- changes of the heap
def wI (σ : Sg) (a j : Nat) (x : Int) : Sg := (fun b i => if b = a ∧ i = j then x else σ.1 b i, σ.2)
def wR (σ : Sg) (a j : Nat) (r : Option Nat) : Sg := (σ.1, fun b i => if b = a ∧ i = j then r else σ.2.1 b i, σ.2.2)
def cI (σ : Sg) (a sp b dp n : Nat) : Sg := (fun c i => if c = b ∧ dp ≤ i ∧ i < dp + n then σ.1 a (sp + (i - dp)) else σ.1 c i, σ.2)
def cR (σ : Sg) (a sp b dp n : Nat) : Sg := (σ.1, fun c i => if c = b ∧ dp ≤ i ∧ i < dp + n then σ.2.1 a (sp + (i - dp)) else σ.2.1 c i, σ.2.2)
def al (σ : Sg) (kd n : Nat) : Sg := (fun b i => if b = sn σ then 0 else σ.1 b i, fun b i => if b = sn σ then none else σ.2.1 b i, fun b => if b = sn σ then (kd, n) else σ.2.2.1 b, sn σ + 1)
/-- new int[n][w]: the outer row, then the inner ones -/
def al2 (σ : Sg) (n w : Nat) : Sg := (fun b i => if sn σ ≤ b then 0 else σ.1 b i, fun b i => if b = sn σ then (if i < n then some (sn σ + 1 + i) else none) else if sn σ ≤ b then none else σ.2.1 b i, fun b => if b = sn σ then (15, n) else if sn σ ≤ b ∧ b < sn σ + 1 + n then (10, w) else if sn σ ≤ b then (0, 0) else σ.2.2.1 b, sn σ + 1 + n)
theorem ce_congr {G : GT} {σ σ' : Sg} {b : Nat} (h1 : hI σ' b = hI σ b) (h2 : hR σ' b = hR σ b) (h3 : sk σ' b = sk σ b) : ce G σ' b = ce G σ b := by
  unfold ce fl
  rw [h1, h2, h3]
theorem ce_obj {G : GT} {σ : Sg} {a ci : Nat} (hk : (sk σ a).1 = ci + 1) (hc : ci < 7) : ce G σ a = .inr (ci, fl G σ ci a) := by
  unfold ce
  rw [hk, if_pos (by omega), Nat.add_sub_cancel]
theorem ce_int {G : GT} {σ : Sg} {a n : Nat} (hk : sk σ a = (10, n)) : ce G σ a = .inl (G.2.1 10, n, .inl (fun j => Int32.ofInt (hI σ a j))) := by
  unfold ce
  rw [hk, if_neg (by show ¬ 10 < 10; omega), if_pos (by show 10 < 12; omega)]
theorem ce_boo {G : GT} {σ : Sg} {a n : Nat} (hk : sk σ a = (11, n)) : ce G σ a = .inl (G.2.1 11, n, .inl (fun j => Int32.ofInt (hI σ a j))) := by
  unfold ce
  rw [hk, if_neg (by show ¬ 11 < 10; omega), if_pos (by show 11 < 12; omega)]
theorem ce_ref {G : GT} {σ : Sg} {a n kd : Nat} (hk : sk σ a = (kd, n)) (h : 12 ≤ kd) : ce G σ a = .inl (G.2.1 kd, n, .inr (.inr (.inr (.inr (fun j => cf G (hR σ a j)))))) := by
  unfold ce
  rw [hk, if_neg (by simp; omega), if_neg (by simp; omega)]
theorem fl_len {G : GT} {σ : Sg} {ci a : Nat} : (fl G σ ci a).length = (cT ci).2.2 := by simp [fl]
theorem fl_get {G : GT} {σ : Sg} {ci a j : Nat} (hj : j < (cT ci).2.2) : (fl G σ ci a)[j]? = some (if fI (cY ci j) = true then cv G (Vi (hI σ a j)) else cv G (Vr (hR σ a j))) := by
  unfold fl
  rw [List.getElem?_map, List.getElem?_range hj]
  rfl
theorem fl_wI {G : GT} {σ : Sg} {ci a j : Nat} {x : Int} (ht : fI (cY ci j) = true) : fl G (wI σ a j x) ci a = (fl G σ ci a).set j (cv G (Vi x)) := by
  apply List.ext_getElem?
  intro i
  by_cases hi : i < (cT ci).2.2
  · rw [fl_get hi]
    by_cases e : i = j
    · subst e
      rw [List.getElem?_set_self (by rw [fl_len]; exact hi), if_pos ht]
      simp [wI, hI]
    · rw [List.getElem?_set_ne (Ne.symm e), fl_get hi]
      simp [wI, hI, hR, e]
  · rw [List.getElem?_eq_none (by rw [fl_len]; omega), List.getElem?_eq_none (by rw [List.length_set, fl_len]; omega)]
theorem fl_wR {G : GT} {σ : Sg} {ci a j : Nat} {r : Option Nat} (ht : fI (cY ci j) = false) : fl G (wR σ a j r) ci a = (fl G σ ci a).set j (cv G (Vr r)) := by
  apply List.ext_getElem?
  intro i
  by_cases hi : i < (cT ci).2.2
  · rw [fl_get hi]
    by_cases e : i = j
    · subst e
      rw [List.getElem?_set_self (by rw [fl_len]; exact hi), if_neg (by rw [ht]; decide)]
      simp [wR, hR]
    · rw [List.getElem?_set_ne (Ne.symm e), fl_get hi]
      simp [wR, hI, hR, e]
  · rw [List.getElem?_eq_none (by rw [fl_len]; omega), List.getElem?_eq_none (by rw [List.length_set, fl_len]; omega)]
theorem wl_D (G : GT) (σ : Sg) : va_D (fun q => gB G ≤ q) (wl G σ) := by
  have key : ∀ (k : Nat) (q : Nat × va_E), (wl G σ)[k]? = some q → q.1 = gB G + k := by
    intro k q h
    have hk : k < sn σ := by
      have := (List.getElem?_eq_some_iff.mp h).1
      rwa [wl_len] at this
    rw [wl_get G hk] at h
    cases h
    rfl
  refine ⟨fun i j p q hp hq e => ?_, fun k q hq => ?_⟩
  · have a := key i p hp
    have b := key j q hq
    omega
  · have a := key k q hq
    show gB G ≤ q.1
    omega
theorem rep_upd {G : GT} {σ σ' : Sg} {s : State} {H H' : Heap} {locs L : List Loc} {a : Nat} (h : RepS G σ s H locs) (ha : a < sn σ) (hsn : sn σ' = sn σ) (hsk : sk σ' = sk σ) (ho : ∀ b, b ≠ a → hI σ' b = hI σ b ∧ hR σ' b = hR σ b)
    (hat : va_at G.1 cls (gB G + a, ce G σ' a) H') (hz : H'.size = H.size) (hq : ∀ q, q ≠ gB G + a → H'[q]? = H[q]?) (hLo : ∀ x ∈ L, x.base = gB G + a) : RepS G σ' s H' (locs ++ L) := by
  obtain ⟨h1, h2, h3, h4, h5, h6, h7, h8, h9, h10⟩ := h
  refine ⟨by rw [hz, hsn]; exact h1, fun k x hx => ?_, wl_D G σ', ⟨by rw [hz]; exact h4.1, fun q a1 a2 => ?_, fun x hx => ?_⟩, h5, h6, h7, h8, h9, fun b hb => by rw [hsn]; rw [hsk] at hb; exact h10 b hb⟩
  · have hk : k < sn σ' := by
      have := (List.getElem?_eq_some_iff.mp hx).1
      rwa [wl_len] at this
    rw [wl_get G hk] at hx
    cases hx
    by_cases e : k = a
    · subst e
      exact hat
    · have hb := ho k e
      rw [ce_congr (G := G) (σ := σ) (σ' := σ') hb.1 hb.2 (by rw [hsk])]
      exact (h2 k _ (wl_get G (by omega))).kept (hq _ (by show gB G + k ≠ gB G + a; omega))
  · have a3 : q < gB G := by
      have : ¬ gB G ≤ q := a2
      omega
    rw [hq q (by omega)]
    exact h4.2.1 q a1 a2
  · rcases List.mem_append.mp hx with y | y
    · exact h4.2.2 x y
    · show gB G ≤ x.base
      rw [hLo x y]
      omega
theorem rep_new {G : GT} {σ : Sg} {s : State} {H H' : Heap} {locs : List Loc} {kd n : Nat} (h : RepS G σ s H locs) (hat : va_at G.1 cls (gB G + sn σ, ce G (al σ kd n) (sn σ)) H') (hz : H'.size = H.size + 1) (hq : ∀ q, q < H.size → H'[q]? = H[q]?) : RepS G (al σ kd n) s H' locs := by
  obtain ⟨h1, h2, h3, h4, h5, h6, h7, h8, h9, h10⟩ := h
  have hb : ∀ b, b < sn σ → ce G (al σ kd n) b = ce G σ b := fun b hb => ce_congr (by funext i; simp [al, hI, Nat.ne_of_lt hb]) (by funext i; simp [al, hR, Nat.ne_of_lt hb]) (by simp [al, hI, hR, sk, Nat.ne_of_lt hb])
  refine ⟨by rw [hz]; show H.size + 1 = gB G + (sn σ + 1); omega, fun k x hx => ?_, wl_D G _, ⟨by have := h4.1; omega, fun q a1 a2 => ?_, h4.2.2⟩, h5, h6, h7, h8, h9, fun b hb => ?_⟩
  · have hk : k < sn (al σ kd n) := by
      have := (List.getElem?_eq_some_iff.mp hx).1
      rwa [wl_len] at this
    rw [wl_get G hk] at hx
    cases hx
    have hk2 : k < sn σ + 1 := hk
    by_cases e : k = sn σ
    · subst e
      exact hat
    · rw [hb k (by omega)]
      exact (h2 k _ (wl_get G (by omega))).kept (hq _ (by show gB G + k < H.size; omega))
  · rw [hq q (by have := h4.1; omega)]
    exact h4.2.1 q a1 a2
  · show b < sn σ + 1
    by_cases e : b = sn σ
    · omega
    · have : sk (al σ kd n) b = sk σ b := by simp [al, sk, e]
      rw [this] at hb
      have := h10 b hb
      omega
theorem rep_lt {G : GT} {σ : Sg} {s : State} {H : Heap} {locs : List Loc} {a kd n : Nat} (h : RepS G σ s H locs) (hk : sk σ a = (kd, n)) (h0 : kd ≠ 0) : a < sn σ := h.2.2.2.2.2.2.2.2.2 a (by rw [hk]; exact h0)
theorem rep_lto {G : GT} {σ : Sg} {s : State} {H : Heap} {locs : List Loc} {a ci : Nat} (h : RepS G σ s H locs) (hk : (sk σ a).1 = ci + 1) : a < sn σ := h.2.2.2.2.2.2.2.2.2 a (by omega)
def FLk (o : String) (idx ci j : Nat) : Prop := ci < 7 ∧ j < (cT ci).2.2 ∧ Cond.fieldLink o idx (cT ci).1 ((cT ci).2.1 j).2.1 ((cT ci).2.1 j).2.2.1 ∈ gT ∧ ((cT ci).2.1 j).1 = (cT ci).1
section HRows
variable {G : GT} {d k n : Nat} {M : MM} {pc : Nat} {ls st : List AV} {σ : Sg} {Q : Option AV → Sg → Prop}
theorem ar_getI {idx ci j a : Nat} (q : Nat) (hq : pc + 3 = q) (hd : decode (bc M) pc = .ok (.getfield idx, 3)) (hf : FLk M.1.cls idx ci j) (ht : fI (cY ci j) = true) (hk : (sk σ a).1 = ci + 1)
    (kk : WA G d k n M q ls (Vi (hI σ a j) :: st) σ Q) : WA G d k n M pc ls (Va a :: st) σ Q := by
  subst hq
  intro p l e R s m args below meth c QM mc ms C hfr hlo hmc hms hret H locs cells slots lsC hR0 hL h1 h2
  have K := kk p l e R s m args below meth c QM mc ms C hfr hlo hmc hms hret H locs cells slots lsC hR0 hL h1 h2
  obtain ⟨f1, f2, f3, f4⟩ := hf
  have hw := wl_get G (rep_lto hR0 hk)
  rw [ce_obj hk f1] at hw
  have hv := fl_get (G := G) (σ := σ) (a := a) f2
  rw [if_pos ht] at hv
  exact va_get C.1 C.2.1 C.2.2.2.2.2.1 (cls_in f1) C.2.2.2.2.1 hR0.2.2.2.2.1 hR0.2.1 a hw (cls_at f1) j f2 (C.2.2.2.2.2.1 _ f3) (fun x hx => by rw [← f4]; exact hx) hv hd K
theorem ar_getR {idx ci j a : Nat} (q : Nat) (hq : pc + 3 = q) (hd : decode (bc M) pc = .ok (.getfield idx, 3)) (hf : FLk M.1.cls idx ci j) (ht : fI (cY ci j) = false) (hk : (sk σ a).1 = ci + 1)
    (kk : WA G d k n M q ls (Vr (hR σ a j) :: st) σ Q) : WA G d k n M pc ls (Va a :: st) σ Q := by
  subst hq
  intro p l e R s m args below meth c QM mc ms C hfr hlo hmc hms hret H locs cells slots lsC hR0 hL h1 h2
  have K := kk p l e R s m args below meth c QM mc ms C hfr hlo hmc hms hret H locs cells slots lsC hR0 hL h1 h2
  obtain ⟨f1, f2, f3, f4⟩ := hf
  have hw := wl_get G (rep_lto hR0 hk)
  rw [ce_obj hk f1] at hw
  have hv := fl_get (G := G) (σ := σ) (a := a) f2
  rw [if_neg (by rw [ht]; decide)] at hv
  exact va_get C.1 C.2.1 C.2.2.2.2.2.1 (cls_in f1) C.2.2.2.2.1 hR0.2.2.2.2.1 hR0.2.1 a hw (cls_at f1) j f2 (C.2.2.2.2.2.1 _ f3) (fun x hx => by rw [← f4]; exact hx) hv hd K
set_option maxHeartbeats 4000000 in
theorem ar_putI {idx ci j a : Nat} {x : Int} (q : Nat) (hq : pc + 3 = q) (hd : decode (bc M) pc = .ok (.putfield idx, 3)) (hf : FLk M.1.cls idx ci j) (ht0 : cY ci j = .int) (hfin : ((cT ci).2.1 j).2.2.2 = false)  (hk : (sk σ a).1 = ci + 1)
    (kk : WA G d k n M q ls st (wI σ a j x) Q) : WA G d k n M pc ls (Vi x :: Va a :: st) σ Q := by
  subst hq
  intro p l e R s m args below meth c QM mc ms C hfr hlo hmc hms hret H locs cells slots lsC hR0 hL h1 h2
  obtain ⟨f1, f2, f3, f4⟩ := hf
  have ht : fI (cY ci j) = true := by rw [ht0]; rfl
  have hn1 : narrow (cY ci j) (cv G (Vi x)) = cv G (Vi x) := by rw [ht0]; rfl
  have hn2 : fits (cY ci j) (cv G (Vi x)) = true := by rw [ht0]; rfl
  have hlt := rep_lto hR0 hk
  have hw := wl_get G hlt
  rw [ce_obj hk f1] at hw
  have hap := va_apart (own := M.1.cls) C.2.2.2.2.2.1 (cls_in f1) (cY ci) (cls_ty f1) (cls_nm f1) hR0.2.2.2.2.1 (cls_at f1)
  obtain ⟨r, hr1, cell, q1, q2, q3, q4⟩ := hR0.2.1 a _ hw
  have hr : r = ((cT ci).1, (cT ci).2.1, (cT ci).2.2) := Option.some.inj (hr1.symm.trans (cls_at f1))
  subst hr
  obtain ⟨hS, hfc, kC, hkC, hkind⟩ := hR0.2.2.2.2.1.1 ci _ (cls_at f1)
  obtain ⟨cf0, kf, fi, f, hi, hsl⟩ := hS j f2
  have hlay := C.2.2.2.2.2.1 _ (cls_in f1 _ (u_in_lay f2))
  unfold u_lay at hlay
  rw [if_neg (by rw [hfin]; decide)] at hlay
  have hst := (u_facts hfc hkC (u_lays C.2.2.2.2.2.1 (cls_in f1) f2) hi).1
  have h6 := u_store hfc hkC hkind hlay hi (cls_ty f1 j f2) hn1 hn2
  refine W.putK C.1 C.2.1 (f := f) ⟨C.2.2.2.2.1, C.2.2.2.2.2.1 _ f3, ⟨_, _, _, by rw [← f4]; exact hi⟩, hst⟩ (by rw [q2]; exact h6) q1 q3 (by rw [hsl]; exact k2_hasslot (q4 j f2)) rfl rfl hd fun H' e1 e2 e3 => ?_
  rw [hsl] at e1 ⊢
  refine kk p l e R s m args below meth c QM mc ms C hfr hlo hmc hms hret H' _ cells slots lsC (rep_upd hR0 hlt rfl rfl (fun b hb => ⟨by funext i; simp [wI, hI, hR, hb], by funext i; simp [wI, hI, hR, hb]⟩) ?_ e2 e3 (fun x hx => by rw [List.mem_singleton.mp hx])) hL h1 h2
  rw [ce_obj (σ := wI σ a j x) hk f1, fl_wI ht]
  exact ⟨_, cls_at f1, t_OB.to (V := updV (vp_V (fl G σ ci a)) j (cv G (Vi x))) ⟨_, e1, q2, q3, t_set q4 hap f2 _⟩ (fun i _ => vp_updV_set (by rw [fl_len]; exact f2) _ i)⟩
set_option maxHeartbeats 4000000 in
theorem ar_putZ {idx ci j a : Nat} {x : Int} (q : Nat) (hq : pc + 3 = q) (hd : decode (bc M) pc = .ok (.putfield idx, 3)) (hf : FLk M.1.cls idx ci j) (ht0 : cY ci j = .boolean) (hx : x = 0 ∨ x = 1) (hfin : ((cT ci).2.1 j).2.2.2 = false)  (hk : (sk σ a).1 = ci + 1)
    (kk : WA G d k n M q ls st (wI σ a j x) Q) : WA G d k n M pc ls (Vi x :: Va a :: st) σ Q := by
  subst hq
  intro p l e R s m args below meth c QM mc ms C hfr hlo hmc hms hret H locs cells slots lsC hR0 hL h1 h2
  obtain ⟨f1, f2, f3, f4⟩ := hf
  have ht : fI (cY ci j) = true := by rw [ht0]; rfl
  have hn1 : narrow (cY ci j) (cv G (Vi x)) = cv G (Vi x) := by rw [ht0]; rcases hx with rfl | rfl <;> rfl
  have hn2 : fits (cY ci j) (cv G (Vi x)) = true := by rw [ht0]; rcases hx with rfl | rfl <;> rfl
  have hlt := rep_lto hR0 hk
  have hw := wl_get G hlt
  rw [ce_obj hk f1] at hw
  have hap := va_apart (own := M.1.cls) C.2.2.2.2.2.1 (cls_in f1) (cY ci) (cls_ty f1) (cls_nm f1) hR0.2.2.2.2.1 (cls_at f1)
  obtain ⟨r, hr1, cell, q1, q2, q3, q4⟩ := hR0.2.1 a _ hw
  have hr : r = ((cT ci).1, (cT ci).2.1, (cT ci).2.2) := Option.some.inj (hr1.symm.trans (cls_at f1))
  subst hr
  obtain ⟨hS, hfc, kC, hkC, hkind⟩ := hR0.2.2.2.2.1.1 ci _ (cls_at f1)
  obtain ⟨cf0, kf, fi, f, hi, hsl⟩ := hS j f2
  have hlay := C.2.2.2.2.2.1 _ (cls_in f1 _ (u_in_lay f2))
  unfold u_lay at hlay
  rw [if_neg (by rw [hfin]; decide)] at hlay
  have hst := (u_facts hfc hkC (u_lays C.2.2.2.2.2.1 (cls_in f1) f2) hi).1
  have h6 := u_store hfc hkC hkind hlay hi (cls_ty f1 j f2) hn1 hn2
  refine W.putK C.1 C.2.1 (f := f) ⟨C.2.2.2.2.1, C.2.2.2.2.2.1 _ f3, ⟨_, _, _, by rw [← f4]; exact hi⟩, hst⟩ (by rw [q2]; exact h6) q1 q3 (by rw [hsl]; exact k2_hasslot (q4 j f2)) rfl rfl hd fun H' e1 e2 e3 => ?_
  rw [hsl] at e1 ⊢
  refine kk p l e R s m args below meth c QM mc ms C hfr hlo hmc hms hret H' _ cells slots lsC (rep_upd hR0 hlt rfl rfl (fun b hb => ⟨by funext i; simp [wI, hI, hR, hb], by funext i; simp [wI, hI, hR, hb]⟩) ?_ e2 e3 (fun x hx => by rw [List.mem_singleton.mp hx])) hL h1 h2
  rw [ce_obj (σ := wI σ a j x) hk f1, fl_wI ht]
  exact ⟨_, cls_at f1, t_OB.to (V := updV (vp_V (fl G σ ci a)) j (cv G (Vi x))) ⟨_, e1, q2, q3, t_set q4 hap f2 _⟩ (fun i _ => vp_updV_set (by rw [fl_len]; exact f2) _ i)⟩
set_option maxHeartbeats 4000000 in
theorem ar_putR {idx ci j a : Nat} {x : Option Nat} (q : Nat) (hq : pc + 3 = q) (hd : decode (bc M) pc = .ok (.putfield idx, 3)) (hf : FLk M.1.cls idx ci j) (ht0 : (∃ C9, cY ci j = .object C9) ∨ ∃ t9, cY ci j = .array t9) (hfin : ((cT ci).2.1 j).2.2.2 = false)  (hk : (sk σ a).1 = ci + 1)
    (kk : WA G d k n M q ls st (wR σ a j x) Q) : WA G d k n M pc ls (Vr x :: Va a :: st) σ Q := by
  subst hq
  intro p l e R s m args below meth c QM mc ms C hfr hlo hmc hms hret H locs cells slots lsC hR0 hL h1 h2
  obtain ⟨f1, f2, f3, f4⟩ := hf
  have ht : fI (cY ci j) = false := by rcases ht0 with ⟨_, e⟩ | ⟨_, e⟩ <;> rw [e] <;> rfl
  have hn1 : narrow (cY ci j) (cv G (Vr x)) = cv G (Vr x) := by rcases ht0 with ⟨_, e⟩ | ⟨_, e⟩ <;> rw [e] <;> cases x <;> rfl
  have hn2 : fits (cY ci j) (cv G (Vr x)) = true := by rcases ht0 with ⟨_, e⟩ | ⟨_, e⟩ <;> rw [e] <;> cases x <;> rfl
  have hlt := rep_lto hR0 hk
  have hw := wl_get G hlt
  rw [ce_obj hk f1] at hw
  have hap := va_apart (own := M.1.cls) C.2.2.2.2.2.1 (cls_in f1) (cY ci) (cls_ty f1) (cls_nm f1) hR0.2.2.2.2.1 (cls_at f1)
  obtain ⟨r, hr1, cell, q1, q2, q3, q4⟩ := hR0.2.1 a _ hw
  have hr : r = ((cT ci).1, (cT ci).2.1, (cT ci).2.2) := Option.some.inj (hr1.symm.trans (cls_at f1))
  subst hr
  obtain ⟨hS, hfc, kC, hkC, hkind⟩ := hR0.2.2.2.2.1.1 ci _ (cls_at f1)
  obtain ⟨cf0, kf, fi, f, hi, hsl⟩ := hS j f2
  have hlay := C.2.2.2.2.2.1 _ (cls_in f1 _ (u_in_lay f2))
  unfold u_lay at hlay
  rw [if_neg (by rw [hfin]; decide)] at hlay
  have hst := (u_facts hfc hkC (u_lays C.2.2.2.2.2.1 (cls_in f1) f2) hi).1
  have h6 := u_store hfc hkC hkind hlay hi (cls_ty f1 j f2) hn1 hn2
  refine W.putK C.1 C.2.1 (f := f) ⟨C.2.2.2.2.1, C.2.2.2.2.2.1 _ f3, ⟨_, _, _, by rw [← f4]; exact hi⟩, hst⟩ (by rw [q2]; exact h6) q1 q3 (by rw [hsl]; exact k2_hasslot (q4 j f2)) rfl rfl hd fun H' e1 e2 e3 => ?_
  rw [hsl] at e1 ⊢
  refine kk p l e R s m args below meth c QM mc ms C hfr hlo hmc hms hret H' _ cells slots lsC (rep_upd hR0 hlt rfl rfl (fun b hb => ⟨by funext i; simp [wR, hI, hR, hb], by funext i; simp [wR, hI, hR, hb]⟩) ?_ e2 e3 (fun x hx => by rw [List.mem_singleton.mp hx])) hL h1 h2
  rw [ce_obj (σ := wR σ a j x) hk f1, fl_wR ht]
  exact ⟨_, cls_at f1, t_OB.to (V := updV (vp_V (fl G σ ci a)) j (cv G (Vr x))) ⟨_, e1, q2, q3, t_set q4 hap f2 _⟩ (fun i _ => vp_updV_set (by rw [fl_len]; exact f2) _ i)⟩
set_option maxHeartbeats 4000000 in
theorem ar_putIF {idx ci j a : Nat} {x : Int} (q : Nat) (hq : pc + 3 = q) (hd : decode (bc M) pc = .ok (.putfield idx, 3)) (hf : FLk M.1.cls idx ci j) (ht0 : cY ci j = .int) (hfin : ((cT ci).2.1 j).2.2.2 = true) (hin : M.1.name = "<init>") (hdc : (cT ci).1 = M.1.cls) (hk : (sk σ a).1 = ci + 1)
    (kk : WA G d k n M q ls st (wI σ a j x) Q) : WA G d k n M pc ls (Vi x :: Va a :: st) σ Q := by
  subst hq
  intro p l e R s m args below meth c QM mc ms C hfr hlo hmc hms hret H locs cells slots lsC hR0 hL h1 h2
  obtain ⟨f1, f2, f3, f4⟩ := hf
  have ht : fI (cY ci j) = true := by rw [ht0]; rfl
  have hn1 : narrow (cY ci j) (cv G (Vi x)) = cv G (Vi x) := by rw [ht0]; rfl
  have hn2 : fits (cY ci j) (cv G (Vi x)) = true := by rw [ht0]; rfl
  have hlt := rep_lto hR0 hk
  have hw := wl_get G hlt
  rw [ce_obj hk f1] at hw
  have hap := va_apart (own := M.1.cls) C.2.2.2.2.2.1 (cls_in f1) (cY ci) (cls_ty f1) (cls_nm f1) hR0.2.2.2.2.1 (cls_at f1)
  obtain ⟨r, hr1, cell, q1, q2, q3, q4⟩ := hR0.2.1 a _ hw
  have hr : r = ((cT ci).1, (cT ci).2.1, (cT ci).2.2) := Option.some.inj (hr1.symm.trans (cls_at f1))
  subst hr
  obtain ⟨hS, hfc, kC, hkC, hkind⟩ := hR0.2.2.2.2.1.1 ci _ (cls_at f1)
  obtain ⟨cf0, kf, fi, f, hi, hsl⟩ := hS j f2
  have hlay := C.2.2.2.2.2.1 _ (cls_in f1 _ (u_in_lay f2))
  unfold u_lay at hlay
  rw [if_pos hfin] at hlay
  have hst := (u_facts hfc hkC (u_lays C.2.2.2.2.2.1 (cls_in f1) f2) hi).1
  have hcf : m.cls = cf0 := by
    obtain ⟨_, _, c', _, _, _, -, -, hf', -, -, -, hown2, -⟩ := Cond.laysFinal_spec hlay
    have e1 : c' = cf0 := by have := hi.symm.trans hf'; simp at this; exact this.1.symm
    rw [f4, hdc] at hown2
    rw [← e1]; exact Option.some.inj (C.2.2.2.2.1.symm.trans hown2)
  have h6 := u_fits hfc hkC hkind (Or.inr hlay) hi (cls_ty f1 j f2) hn1 hn2
  refine W.putFinK C.1 C.2.1 C.2.2.2.2.1 (C.2.2.2.2.2.1 _ f3) (by rw [← f4]; exact hi) hst hcf (C.2.2.2.2.2.2.2 hin) (by rw [q2]; exact h6) q1 q3 (by rw [hsl]; exact k2_hasslot (q4 j f2)) rfl rfl hd fun H' e1 e2 e3 => ?_
  rw [hsl] at e1 ⊢
  refine kk p l e R s m args below meth c QM mc ms C hfr hlo hmc hms hret H' _ cells slots lsC (rep_upd hR0 hlt rfl rfl (fun b hb => ⟨by funext i; simp [wI, hI, hR, hb], by funext i; simp [wI, hI, hR, hb]⟩) ?_ e2 e3 (fun x hx => by rw [List.mem_singleton.mp hx])) hL h1 h2
  rw [ce_obj (σ := wI σ a j x) hk f1, fl_wI ht]
  exact ⟨_, cls_at f1, t_OB.to (V := updV (vp_V (fl G σ ci a)) j (cv G (Vi x))) ⟨_, e1, q2, q3, t_set q4 hap f2 _⟩ (fun i _ => vp_updV_set (by rw [fl_len]; exact f2) _ i)⟩
set_option maxHeartbeats 4000000 in
theorem ar_putRF {idx ci j a : Nat} {x : Option Nat} (q : Nat) (hq : pc + 3 = q) (hd : decode (bc M) pc = .ok (.putfield idx, 3)) (hf : FLk M.1.cls idx ci j) (ht0 : (∃ C9, cY ci j = .object C9) ∨ ∃ t9, cY ci j = .array t9) (hfin : ((cT ci).2.1 j).2.2.2 = true) (hin : M.1.name = "<init>") (hdc : (cT ci).1 = M.1.cls) (hk : (sk σ a).1 = ci + 1)
    (kk : WA G d k n M q ls st (wR σ a j x) Q) : WA G d k n M pc ls (Vr x :: Va a :: st) σ Q := by
  subst hq
  intro p l e R s m args below meth c QM mc ms C hfr hlo hmc hms hret H locs cells slots lsC hR0 hL h1 h2
  obtain ⟨f1, f2, f3, f4⟩ := hf
  have ht : fI (cY ci j) = false := by rcases ht0 with ⟨_, e⟩ | ⟨_, e⟩ <;> rw [e] <;> rfl
  have hn1 : narrow (cY ci j) (cv G (Vr x)) = cv G (Vr x) := by rcases ht0 with ⟨_, e⟩ | ⟨_, e⟩ <;> rw [e] <;> cases x <;> rfl
  have hn2 : fits (cY ci j) (cv G (Vr x)) = true := by rcases ht0 with ⟨_, e⟩ | ⟨_, e⟩ <;> rw [e] <;> cases x <;> rfl
  have hlt := rep_lto hR0 hk
  have hw := wl_get G hlt
  rw [ce_obj hk f1] at hw
  have hap := va_apart (own := M.1.cls) C.2.2.2.2.2.1 (cls_in f1) (cY ci) (cls_ty f1) (cls_nm f1) hR0.2.2.2.2.1 (cls_at f1)
  obtain ⟨r, hr1, cell, q1, q2, q3, q4⟩ := hR0.2.1 a _ hw
  have hr : r = ((cT ci).1, (cT ci).2.1, (cT ci).2.2) := Option.some.inj (hr1.symm.trans (cls_at f1))
  subst hr
  obtain ⟨hS, hfc, kC, hkC, hkind⟩ := hR0.2.2.2.2.1.1 ci _ (cls_at f1)
  obtain ⟨cf0, kf, fi, f, hi, hsl⟩ := hS j f2
  have hlay := C.2.2.2.2.2.1 _ (cls_in f1 _ (u_in_lay f2))
  unfold u_lay at hlay
  rw [if_pos hfin] at hlay
  have hst := (u_facts hfc hkC (u_lays C.2.2.2.2.2.1 (cls_in f1) f2) hi).1
  have hcf : m.cls = cf0 := by
    obtain ⟨_, _, c', _, _, _, -, -, hf', -, -, -, hown2, -⟩ := Cond.laysFinal_spec hlay
    have e1 : c' = cf0 := by have := hi.symm.trans hf'; simp at this; exact this.1.symm
    rw [f4, hdc] at hown2
    rw [← e1]; exact Option.some.inj (C.2.2.2.2.1.symm.trans hown2)
  have h6 := u_fits hfc hkC hkind (Or.inr hlay) hi (cls_ty f1 j f2) hn1 hn2
  refine W.putFinK C.1 C.2.1 C.2.2.2.2.1 (C.2.2.2.2.2.1 _ f3) (by rw [← f4]; exact hi) hst hcf (C.2.2.2.2.2.2.2 hin) (by rw [q2]; exact h6) q1 q3 (by rw [hsl]; exact k2_hasslot (q4 j f2)) rfl rfl hd fun H' e1 e2 e3 => ?_
  rw [hsl] at e1 ⊢
  refine kk p l e R s m args below meth c QM mc ms C hfr hlo hmc hms hret H' _ cells slots lsC (rep_upd hR0 hlt rfl rfl (fun b hb => ⟨by funext i; simp [wR, hI, hR, hb], by funext i; simp [wR, hI, hR, hb]⟩) ?_ e2 e3 (fun x hx => by rw [List.mem_singleton.mp hx])) hL h1 h2
  rw [ce_obj (σ := wR σ a j x) hk f1, fl_wR ht]
  exact ⟨_, cls_at f1, t_OB.to (V := updV (vp_V (fl G σ ci a)) j (cv G (Vr x))) ⟨_, e1, q2, q3, t_set q4 hap f2 _⟩ (fun i _ => vp_updV_set (by rw [fl_len]; exact f2) _ i)⟩
theorem ar_iald {a N : Nat} {j : Int} (q : Nat) (hq : pc + 1 = q) (hd : decode (bc M) pc = .ok (.iaload, 1)) (hk : sk σ a = (10, N)) (hj : 0 ≤ j ∧ j < N ∧ j ≤ 2147483647)
    (kk : WA G d k n M q ls (Vi (hI σ a j.toNat) :: st) σ Q) : WA G d k n M pc ls (Vi j :: Va a :: st) σ Q := by
  subst hq
  intro p l e R s m args below meth c QM mc ms C hfr hlo hmc hms hret H locs cells slots lsC hR0 hL h1 h2
  have K := kk p l e R s m args below meth c QM mc ms C hfr hlo hmc hms hret H locs cells slots lsC hR0 hL h1 h2
  have hw := wl_get G (rep_lt hR0 hk (by decide))
  rw [ce_int hk] at hw
  refine va_iald C.1 C.2.1 hR0.2.2.2.2.1 hR0.2.1 a 0 hw rfl (o_in hj) hd ?_
  rw [o_nat (by omega)]
  exact K
theorem ar_bald {a N : Nat} {j : Int} (q : Nat) (hq : pc + 1 = q) (hd : decode (bc M) pc = .ok (.baload, 1)) (hk : sk σ a = (11, N)) (hj : 0 ≤ j ∧ j < N ∧ j ≤ 2147483647)
    (kk : WA G d k n M q ls (Vi (hI σ a j.toNat) :: st) σ Q) : WA G d k n M pc ls (Vi j :: Va a :: st) σ Q := by
  subst hq
  intro p l e R s m args below meth c QM mc ms C hfr hlo hmc hms hret H locs cells slots lsC hR0 hL h1 h2
  have K := kk p l e R s m args below meth c QM mc ms C hfr hlo hmc hms hret H locs cells slots lsC hR0 hL h1 h2
  have hw := wl_get G (rep_lt hR0 hk (by decide))
  rw [ce_boo hk] at hw
  refine va_zald C.1 C.2.1 hR0.2.2.2.2.1 hR0.2.1 a 1 hw rfl (o_in hj) hd ?_
  rw [o_nat (by omega)]
  exact K
theorem ar_iast {a N : Nat} {j x : Int} (q : Nat) (hq : pc + 1 = q) (hd : decode (bc M) pc = .ok (.iastore, 1)) (hk : sk σ a = (10, N)) (hj : 0 ≤ j ∧ j < N ∧ j ≤ 2147483647) 
    (kk : WA G d k n M q ls st (wI σ a j.toNat x) Q) : WA G d k n M pc ls (Vi x :: Vi j :: Va a :: st) σ Q := by
  subst hq
  intro p l e R s m args below meth c QM mc ms C hfr hlo hmc hms hret H locs cells slots lsC hR0 hL h1 h2
  have hlt := rep_lt hR0 hk (by decide)
  have hw := wl_get G hlt
  rw [ce_int hk] at hw
  have hin := o_in hj
  refine W.iast C.1 C.2.1 (hR0.2.1 a _ hw) ((hR0.2.2.2.2.1.2 0 _ rfl).1 N (fun i => .int (Int32.ofInt (hI σ a i)))) (fun q => by cases q) (by show ¬ (_ < 0 ∨ (arrV _ _ _).slots.size ≤ _); rw [arrV_size]; exact hin) rfl rfl hd fun H' e1 e2 e3 => ?_
  refine kk p l e R s m args below meth c QM mc ms C hfr hlo hmc hms hret H' _ cells slots lsC (rep_upd hR0 hlt rfl rfl (fun b hb => ⟨by funext i; simp [wI, hI, hb], rfl⟩) ?_ e2 e3 (fun x hx => by rw [List.mem_singleton.mp hx])) hL h1 h2
  rw [ce_int (σ := wI σ a j.toNat x) hk]
  show H'[gB G + a]? = some (vp_cell _ _)
  rw [e1]
  rw [vp_cell_i, vp_cell_i, arrV_store]
  congr 2
  funext i
  rw [o_nat (by omega)]
  by_cases hi : i = j.toNat
  · subst hi
    simp [updV, wI, hI]
  · simp [updV, wI, hI, hi]
theorem ar_bast {a N : Nat} {j x : Int} (q : Nat) (hq : pc + 1 = q) (hd : decode (bc M) pc = .ok (.bastore, 1)) (hk : sk σ a = (11, N)) (hj : 0 ≤ j ∧ j < N ∧ j ≤ 2147483647) (hx : x = 0 ∨ x = 1)
    (kk : WA G d k n M q ls st (wI σ a j.toNat x) Q) : WA G d k n M pc ls (Vi x :: Vi j :: Va a :: st) σ Q := by
  subst hq
  intro p l e R s m args below meth c QM mc ms C hfr hlo hmc hms hret H locs cells slots lsC hR0 hL h1 h2
  have hlt := rep_lt hR0 hk (by decide)
  have hw := wl_get G hlt
  rw [ce_boo hk] at hw
  have hin := o_in hj
  have hnar : narrow .boolean (.int (Int32.ofInt x)) = .int (Int32.ofInt x) := by rcases hx with rfl | rfl <;> rfl
  refine W.zast C.1 C.2.1 (hR0.2.1 a _ hw) ((hR0.2.2.2.2.1.2 1 _ rfl).1 N (fun i => .int (Int32.ofInt (hI σ a i)))) (fun q => by cases q) (by show ¬ (_ < 0 ∨ (arrV _ _ _).slots.size ≤ _); rw [arrV_size]; exact hin) rfl rfl hd fun H' e1 e2 e3 => ?_
  rw [hnar] at e1
  refine kk p l e R s m args below meth c QM mc ms C hfr hlo hmc hms hret H' _ cells slots lsC (rep_upd hR0 hlt rfl rfl (fun b hb => ⟨by funext i; simp [wI, hI, hb], rfl⟩) ?_ e2 e3 (fun x hx => by rw [List.mem_singleton.mp hx])) hL h1 h2
  rw [ce_boo (σ := wI σ a j.toNat x) hk]
  show H'[gB G + a]? = some (vp_cell _ _)
  rw [e1]
  rw [vp_cell_i, vp_cell_i, arrV_store]
  congr 2
  funext i
  rw [o_nat (by omega)]
  by_cases hi : i = j.toNat
  · subst hi
    simp [updV, wI, hI]
  · simp [updV, wI, hI, hi]
def aK (kd : Nat) : FieldType := match kd with
  | 12 => .object RX1
  | 13 => .object RX4
  | 14 => .object RX3
  | _ => .array .int
theorem kd_c {P : Nat → Prop} {kd : Nat} (h : 12 ≤ kd ∧ kd ≤ 15) (h0 : P 12) (h1 : P 13) (h2 : P 14) (h3 : P 15) : P kd := by
  rcases (by omega : kd = 12 ∨ kd = 13 ∨ kd = 14 ∨ kd = 15) with rfl | rfl | rfl | rfl <;> assumption
theorem ty_at (G : GT) {kd : Nat} (h : 12 ≤ kd ∧ kd ≤ 15) : (tyl G)[kd - 10]? = some (G.2.1 kd, aK kd) := kd_c (P := fun kd => (tyl G)[kd - 10]? = some (G.2.1 kd, aK kd)) h rfl rfl rfl rfl
theorem aK_ref {kd : Nat} (h : 12 ≤ kd ∧ kd ≤ 15) : (aK kd).isReference = true := kd_c (P := fun kd => (aK kd).isReference = true) h rfl rfl rfl rfl
theorem ar_aald {a N kd : Nat} {j : Int} (q : Nat) (hq : pc + 1 = q) (hd : decode (bc M) pc = .ok (.aaload, 1)) (hk : sk σ a = (kd, N)) (hkd : 12 ≤ kd ∧ kd ≤ 15) (hj : 0 ≤ j ∧ j < N ∧ j ≤ 2147483647)
    (kk : WA G d k n M q ls (Vr (hR σ a j.toNat) :: st) σ Q) : WA G d k n M pc ls (Vi j :: Va a :: st) σ Q := by
  subst hq
  intro p l e R s m args below meth c QM mc ms C hfr hlo hmc hms hret H locs cells slots lsC hR0 hL h1 h2
  have K := kk p l e R s m args below meth c QM mc ms C hfr hlo hmc hms hret H locs cells slots lsC hR0 hL h1 h2
  have hw := wl_get G (rep_lt hR0 hk (by omega))
  rw [ce_ref hk hkd.1] at hw
  have hin := o_in hj
  have hlt : (Int32.ofInt j).toNatClampNeg < N := Nat.not_le.mp fun q => hin (Or.inr q)
  refine W.aald (v := va_rf (cf G (hR σ a (Int32.ofInt j).toNatClampNeg))) (ty := aK kd) C.1 C.2.1 (hR0.2.1 a _ hw) ((hR0.2.2.2.2.1.2 _ _ (ty_at G hkd)).1 N (fun i => va_rf (cf G (hR σ a i)))) (aK_ref hkd) (fun q => by cases q) (by show ¬ (_ < 0 ∨ (arrV _ _ _).slots.size ≤ _); rw [arrV_size]; exact hin) (by show (arrV _ _ _).slots[_]? = _; rw [arrV_read _ _ hlt]) rfl rfl hd ?_
  rw [o_nat (by omega), cv_rf]
  exact K
/-- which kind of object an array of the kind holds -/
def kO (kd : Nat) : Nat := match kd with
  | 12 => 1
  | 13 => 4
  | _ => 3
theorem kO_ty {kd : Nat} (h : 12 ≤ kd ∧ kd ≤ 14) : aK kd = .object (cT (kO kd)).1 := by
  rcases (by omega : kd = 12 ∨ kd = 13 ∨ kd = 14) with rfl | rfl | rfl <;> rfl
theorem kO_lt {kd : Nat} : kO kd < 7 := by unfold kO; split <;> decide
theorem ar_aast {a N kd v : Nat} {j : Int} (q : Nat) (hq : pc + 1 = q) (hd : decode (bc M) pc = .ok (.aastore, 1)) (hk : sk σ a = (kd, N)) (hkd : 12 ≤ kd ∧ kd ≤ 14) (hj : 0 ≤ j ∧ j < N ∧ j ≤ 2147483647) (hv : (sk σ v).1 = kO kd + 1)
    (kk : WA G d k n M q ls st (wR σ a j.toNat (some v)) Q) : WA G d k n M pc ls (Va v :: Vi j :: Va a :: st) σ Q := by
  subst hq
  intro p l e R s m args below meth c QM mc ms C hfr hlo hmc hms hret H locs cells slots lsC hR0 hL h1 h2
  have hltA := rep_lt hR0 hk (by omega)
  have hw := wl_get G hltA
  rw [ce_ref hk hkd.1] at hw
  have hwv := wl_get G (rep_lto hR0 hv)
  rw [ce_obj hv kO_lt] at hwv
  have hin := o_in hj
  have hlt : (Int32.ofInt j).toNatClampNeg < N := Nat.not_le.mp fun q => hin (Or.inr q)
  have h0 : ¬ Int32.ofInt j < 0 := fun q => hin (Or.inl q)
  obtain ⟨r', hr', cellV, g1, g2, g3, -⟩ := hR0.2.1 v _ hwv
  have hcls := (hR0.2.2.2.2.1.1 (kO kd) _ (cls_at kO_lt)).2
  have hty := hR0.2.2.2.2.1.2 _ _ (ty_at G (kd := kd) (by omega))
  rw [kO_ty hkd] at hty
  obtain ⟨kA, comp, k1, k2, k3, -⟩ := hty.2
  have hcomp : comp = G.1.1 (kO kd) := Option.some.inj (k3.symm.trans hcls.1)
  subst hcomp
  obtain ⟨kC, hkC, -⟩ := hcls.2
  refine W.aast C.1 C.2.1 (hR0.2.1 a _ hw) (fun q h => by cases h) (fun h => by cases h) k1 k2 rfl hkC ⟨h0, by show _ < (arrV _ _ _).slots.size; rw [arrV_size]; exact hlt⟩ g1 (fun q h => by rw [g3] at h; cases h) (by rw [g2]; exact hkC) (by rw [g2]; exact va_assign hcls) rfl rfl hd fun H' e1 e2 e3 => ?_
  refine kk p l e R s m args below meth c QM mc ms C hfr hlo hmc hms hret H' _ cells slots lsC (rep_upd hR0 hltA rfl rfl (fun b hb => ⟨rfl, by funext i; simp [wR, hR, hb]⟩) ?_ e2 e3 (fun x hx => by rw [List.mem_singleton.mp hx])) hL h1 h2
  rw [ce_ref (σ := wR σ a j.toNat (some v)) hk hkd.1]
  show H'[gB G + a]? = some (vp_cell _ _)
  rw [e1]
  rw [vp_cell_q, vp_cell_q, arrV_store]
  congr 2
  funext i
  rw [o_nat (by omega)]
  by_cases hi : i = j.toNat
  · subst hi
    simp [updV, wR, hR, va_rf, cf]
  · simp [updV, wR, hR, hi]
theorem ar_alen {a N kd : Nat} (q : Nat) (hq : pc + 1 = q) (hd : decode (bc M) pc = .ok (.arraylength, 1)) (hk : sk σ a = (kd, N)) (hkd : 10 ≤ kd ∧ kd ≤ 15)
    (kk : WA G d k n M q ls (Vi (N : Int) :: st) σ Q) : WA G d k n M pc ls (Va a :: st) σ Q := by
  subst hq
  intro p l e R s m args below meth c QM mc ms C hfr hlo hmc hms hret H locs cells slots lsC hR0 hL h1 h2
  have K := kk p l e R s m args below meth c QM mc ms C hfr hlo hmc hms hret H locs cells slots lsC hR0 hL h1 h2
  have hw := wl_get G (rep_lt hR0 hk (by omega))
  have hN : Int32.ofNat N = Int32.ofInt (N : Int) := Int32.ofInt_eq_ofNat.symm
  rcases (by omega : kd = 10 ∨ kd = 11 ∨ 12 ≤ kd) with rfl | rfl | h12
  · rw [ce_int hk] at hw
    exact va_alen C.1 C.2.1 hR0.2.2.2.2.1 hR0.2.1 a 0 hw rfl hN hd K
  · rw [ce_boo hk] at hw
    exact va_alen C.1 C.2.1 hR0.2.2.2.2.1 hR0.2.1 a 1 hw rfl hN hd K
  · rw [ce_ref hk h12] at hw
    exact va_alen C.1 C.2.1 hR0.2.2.2.2.1 hR0.2.1 a (kd - 10) hw (ty_at G ⟨h12, hkd.2⟩) hN hd K
-- the script
theorem ar_sald {j : Int} (q : Nat) (hq : pc + 1 = q) (hd : decode (bc M) pc = .ok (.iaload, 1)) (hj : 0 ≤ j ∧ j < gL G ∧ j ≤ 2147483647)
    (kk : WA G d k n M q ls (Vi (gX G j.toNat).toInt :: st) σ Q) : WA G d k n M pc ls (Vi j :: Vs :: st) σ Q := by
  subst hq
  intro p l e R s m args below meth c QM mc ms C hfr hlo hmc hms hret H locs cells slots lsC hR0 hL h1 h2
  have K := kk p l e R s m args below meth c QM mc ms C hfr hlo hmc hms hret H locs cells slots lsC hR0 hL h1 h2
  have hb := hR0.2.2.2.2.2.2.2.1
  have hb2 := hR0.2.2.2.2.2.2.1
  refine va_sld C.1 C.2.1 hR0.2.2.2.2.2.2.2.2.1 (by omega) (by show ¬ gB G ≤ gS G; omega) hR0.2.2.2.1 (o_in hj) hd ?_
  rw [o_nat (by omega)]
  rw [List.map_cons, cv_i32] at K
  exact K
theorem ar_slen (q : Nat) (hq : pc + 1 = q) (hd : decode (bc M) pc = .ok (.arraylength, 1))
    (kk : WA G d k n M q ls (Vi (gL G : Int) :: st) σ Q) : WA G d k n M pc ls (Vs :: st) σ Q := by
  subst hq
  intro p l e R s m args below meth c QM mc ms C hfr hlo hmc hms hret H locs cells slots lsC hR0 hL h1 h2
  have K := kk p l e R s m args below meth c QM mc ms C hfr hlo hmc hms hret H locs cells slots lsC hR0 hL h1 h2
  have hb := hR0.2.2.2.2.2.2.2.1
  have hb2 := hR0.2.2.2.2.2.2.1
  refine va_slen C.1 C.2.1 hR0.2.2.2.2.2.2.2.2.1 (by omega) (by show ¬ gB G ≤ gS G; omega) hR0.2.2.2.1 hd ?_
  have hN : Int32.ofNat (gL G) = Int32.ofInt (gL G : Int) := Int32.ofInt_eq_ofNat.symm
  rw [hN]
  exact K
theorem ar_new {idx : Nat} (ci k' n' : Nat) (q : Nat) (hq : pc + 3 = q) (hd : decode (bc M) pc = .ok (.new idx, 3)) (hc : ci < 7) (hcl : Cond.classLink M.1.cls idx (cT ci).1 ∈ gT) (hin : Cond.instantiable (cT ci).1 (cT ci).2.2 ∈ gT) (hini : Cond.initialized (cT ci).1 ∈ gT) (hk : k' + 1 ≤ k) (hn : n' + (cT ci).2.2 ≤ n)
    (kk : WA G d k' n' M q ls (Va (sn σ) :: st) (al σ (ci + 1) 0) Q) : WA G d k n M pc ls st σ Q := by
  subst hq
  intro p l e R s m args below meth c QM mc ms C hfr hlo hmc hms hret H locs cells slots lsC hR0 hL h1 h2
  have hKn := hR0.2.2.2.2.1.1 ci _ (cls_at hc)
  refine W.newcK C.1 C.2.1 C.2.2.2.2.1 (C.2.2.2.2.2.1 _ hcl) (C.2.2.2.2.2.1 _ hin) (C.2.2.2.2.2.1 _ hini) rfl hd (by omega) (by omega) hKn.2.1 hR0.1 fun H1 kC hkC e1 z1 o1 => ?_
  refine kk p l e R s m args below meth c QM mc ms C hfr hlo hmc hms hret H1 locs (cells + 1) (slots + (cT ci).2.2) lsC (rep_new hR0 ?_ (by rw [z1, hR0.1]) (fun q hq => o1 q (by rw [← hR0.1]; exact hq))) hL (by omega) (by omega)
  rw [ce_obj (σ := al σ (ci + 1) 0) (ci := ci) (by simp [al, sk]) hc]
  refine ⟨_, cls_at hc, (u_born (cY ci) C.2.2.2.2.2.1 (cls_in hc) hKn hkC e1 (cls_ty hc)).to (fun j hj => ?_)⟩
  unfold vp_V
  rw [List.getD_eq_getElem?_getD, fl_get hj, cls_dv hc j hj]
  simp only [al, hI, hR, if_true, Option.getD_some]
  split <;> rfl
theorem ar_newI {x : Int} (N k' n' : Nat) (q : Nat) (hq : pc + 2 = q) (hd : decode (bc M) pc = .ok (.newarray .int, 2)) (hx : x = N) (hN : N ≤ 536870912 / 4) (har : Cond.arrayClass .int ∈ gT) (hk : k' + 1 ≤ k) (hn : n' + N ≤ n)
    (kk : WA G d k' n' M q ls (Va (sn σ) :: st) (al σ 10 N) Q) : WA G d k n M pc ls (Vi x :: st) σ Q := by
  subst hq
  subst hx
  intro p l e R s m args below meth c QM mc ms C hfr hlo hmc hms hret H locs cells slots lsC hR0 hL h1 h2
  have hb := hR0.1
  have hcn : (Int32.ofInt (N : Int)).toNatClampNeg = N := by rw [o_nat (by omega)]; omega
  refine va_newaK C.1 C.2.1 (atype := .int) (C.2.2.2.2.2.1 _ har) rfl hd rfl (o_nneg (by omega)) hcn (by show N * _ ≤ 536870912; first | (show N * 4 ≤ 536870912; omega) | (show N * 1 ≤ 536870912; omega)) (by omega) (by omega) hb fun H1 cA e1 z1 o1 hA hfc => ?_
  have hc : cA = G.2.1 10 := Option.some.inj (hfc.symm.trans (hR0.2.2.2.2.1.2 0 _ rfl).2)
  subst hc
  refine kk p l e R s m args below meth c QM mc ms C hfr hlo hmc hms hret H1 locs (cells + 1) (slots + N) lsC (rep_new hR0 ?_ (by rw [z1, hb]) (fun q hq => o1 q (by rw [← hb]; exact hq))) hL (by omega) (by omega)
  rw [ce_int (σ := al σ 10 N) (n := N) (by simp [al, sk])]
  show H1[gB G + sn σ]? = some (vp_cell _ _)
  rw [e1, vp_cell_i]
  simp [al, hI, defaultValue, newarray.typeOf]
theorem ar_newZ {x : Int} (N k' n' : Nat) (q : Nat) (hq : pc + 2 = q) (hd : decode (bc M) pc = .ok (.newarray .boolean, 2)) (hx : x = N) (hN : N ≤ 536870912 / 4) (har : Cond.arrayClass .boolean ∈ gT) (hk : k' + 1 ≤ k) (hn : n' + N ≤ n)
    (kk : WA G d k' n' M q ls (Va (sn σ) :: st) (al σ 11 N) Q) : WA G d k n M pc ls (Vi x :: st) σ Q := by
  subst hq
  subst hx
  intro p l e R s m args below meth c QM mc ms C hfr hlo hmc hms hret H locs cells slots lsC hR0 hL h1 h2
  have hb := hR0.1
  have hcn : (Int32.ofInt (N : Int)).toNatClampNeg = N := by rw [o_nat (by omega)]; omega
  refine va_newaK C.1 C.2.1 (atype := .boolean) (C.2.2.2.2.2.1 _ har) rfl hd rfl (o_nneg (by omega)) hcn (by show N * _ ≤ 536870912; first | (show N * 4 ≤ 536870912; omega) | (show N * 1 ≤ 536870912; omega)) (by omega) (by omega) hb fun H1 cA e1 z1 o1 hA hfc => ?_
  have hc : cA = G.2.1 11 := Option.some.inj (hfc.symm.trans (hR0.2.2.2.2.1.2 1 _ rfl).2)
  subst hc
  refine kk p l e R s m args below meth c QM mc ms C hfr hlo hmc hms hret H1 locs (cells + 1) (slots + N) lsC (rep_new hR0 ?_ (by rw [z1, hb]) (fun q hq => o1 q (by rw [← hb]; exact hq))) hL (by omega) (by omega)
  rw [ce_boo (σ := al σ 11 N) (n := N) (by simp [al, sk])]
  show H1[gB G + sn σ]? = some (vp_cell _ _)
  rw [e1, vp_cell_i]
  simp [al, hI, defaultValue, newarray.typeOf]
theorem ar_anew {idx : Nat} {x : Int} (kd N k' n' : Nat) (q : Nat) (hq : pc + 3 = q) (hd : decode (bc M) pc = .ok (.anewarray idx, 3)) (hkd : 12 ≤ kd ∧ kd ≤ 14) (hcl : Cond.classLink M.1.cls idx (cT (kO kd)).1 ∈ gT) (hx : x = N) (hN : N ≤ 536870912 / 4) (hk : k' + 1 ≤ k) (hn : n' + N ≤ n)
    (kk : WA G d k' n' M q ls (Va (sn σ) :: st) (al σ kd N) Q) : WA G d k n M pc ls (Vi x :: st) σ Q := by
  subst hq
  subst hx
  intro p l e R s m args below meth c QM mc ms C hfr hlo hmc hms hret H locs cells slots lsC hR0 hL h1 h2
  have hb := hR0.1
  have hcn : (Int32.ofInt (N : Int)).toNatClampNeg = N := by rw [o_nat (by omega)]; omega
  have hov : va_AO (cT (kO kd)).1 s := by
    have h9 := hR0.2.2.2.2.2.1.2.1
    rcases (by omega : kd = 12 ∨ kd = 13 ∨ kd = 14) with rfl | rfl | rfl
    · exact h9.1
    · exact h9.2.2
    · exact h9.2.1
  refine W.anew C.1 C.2.1 C.2.2.2.2.1 (C.2.2.2.2.2.1 _ hcl) (va_AO.use hov) rfl hd rfl (o_nneg (by omega)) (by rw [hcn]; omega) (by omega) (by rw [hcn]; omega) fun cA kA comp f1 f2 f3 f4 => ?_
  have hty := hR0.2.2.2.2.1.2 _ _ (ty_at G (kd := kd) (by omega))
  rw [kO_ty hkd] at hty
  obtain ⟨kA9, comp9, g1, g2, g3, g4⟩ := hty.2
  have hc : cA = G.2.1 kd := Option.some.inj (f1.symm.trans g4)
  subst hc
  rw [hcn]
  generalize hH1 : H.push ({ cls := G.2.1 kd, slots := Array.replicate N .null, vm := .none } : Cell) = H1
  have z1 : H1.size = H.size + 1 := by rw [← hH1, Array.size_push]
  have e1 : H1[H.size]? = some (arrV (G.2.1 kd) N (fun _ => .null)) := by rw [← hH1, Array.getElem?_push_size, ← arrV_new]
  have o1 : ∀ q : Nat, q < H.size → H1[q]? = H[q]? := fun q hq => by rw [← hH1, Array.getElem?_push, if_neg (Nat.ne_of_lt hq)]
  rw [hb]
  refine kk p l e R s m args below meth c QM mc ms C hfr hlo hmc hms hret H1 locs (cells + 1) (slots + N) lsC (rep_new hR0 ?_ z1 o1) hL (by omega) (by omega)
  rw [ce_ref (σ := al σ kd N) (n := N) (kd := kd) (by simp [al, sk]) hkd.1]
  show H1[gB G + sn σ]? = some (vp_cell _ _)
  rw [← hb, e1, vp_cell_q]
  simp [al, hR, cf, va_rf]
theorem ar_oinit {idx a : Nat} (q : Nat) (hq : pc + 3 = q) (hd : decode (bc M) pc = .ok (.invokespecial idx, 3)) (hl : Cond.methodLink M.1.cls idx objectInit ∈ gT) (hi : Cond.instanceMethod objectInit ∈ gT) (hc : Cond.code objectInit ⟨#[0xb1]⟩ 1 none ∈ gT) (hst : st.length ≤ 4) (hd1 : 1 ≤ d)
    (kk : WA G d k n M q ls st σ Q) : WA G d k n M pc ls (Va a :: st) σ Q := by
  subst hq
  intro p l e R s m args below meth c QM mc ms C hfr hlo hmc hms hret H locs cells slots lsC hR0 hL h1 h2
  have hcat : ∀ l9 : List AV, ((l9.map (cv G)).map fun v => v.category).sum ≤ 2 * l9.length := by
    intro l9
    induction l9 with
    | nil => simp
    | cons v t ih =>
      have := lv_cat (cv G v)
      simp only [List.map_cons, List.sum_cons, List.length_cons]
      omega
  have h9 := hcat st
  exact W.objInit C.1 C.2.1 C.2.2.2.2.1 (C.2.2.2.2.2.1 _ hl) (C.2.2.2.2.2.1 _ hi) (C.2.2.2.2.2.1 _ hc) rfl (by rw [C.2.2.2.1]; exact hL.1) rfl hd (by omega) (by show 2 * 0 + _ + 12 ≤ _; omega) (kk p l e R s m args below meth c QM mc ms C hfr hlo hmc hms hret H locs cells slots lsC hR0 hL h1 h2)
end HRows
