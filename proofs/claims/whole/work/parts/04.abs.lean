-- ===== the abstract machine: values, heap, what a state of the machine says of it =====
abbrev AV : Type := Int ⊕ (Option Nat ⊕ (Int ⊕ Bool))
abbrev Vi (x : Int) : AV := Sum.inl x
abbrev Vr (o : Option Nat) : AV := Sum.inr (Sum.inl o)
abbrev Va (a : Nat) : AV := Sum.inr (Sum.inl (some a))
abbrev Vn : AV := Sum.inr (Sum.inl none)
abbrev Vl (x : Int) : AV := Sum.inr (Sum.inr (Sum.inl x))
abbrev Vu : AV := Sum.inr (Sum.inr (Sum.inr false))
abbrev Vs : AV := Sum.inr (Sum.inr (Sum.inr true))
/-- the heap: ints and references by address and place, each cell's kind and length, how many cells -/
abbrev Sg : Type := (Nat → Nat → Int) × (Nat → Nat → Option Nat) × (Nat → Nat × Nat) × Nat
abbrev hI (σ : Sg) : Nat → Nat → Int := σ.1
abbrev hR (σ : Sg) : Nat → Nat → Option Nat := σ.2.1
abbrev sk (σ : Sg) : Nat → Nat × Nat := σ.2.2.1
abbrev sn (σ : Sg) : Nat := σ.2.2.2
abbrev GT : Type := va_G × (Nat → ClassId) × Nat × Nat × Nat × (Nat → Int32)
abbrev gB (G : GT) : Nat := G.2.2.1
abbrev gS (G : GT) : Nat := G.2.2.2.1
abbrev gL (G : GT) : Nat := G.2.2.2.2.1
abbrev gX (G : GT) : Nat → Int32 := G.2.2.2.2.2
def cv (G : GT) (v : AV) : Value := match v with
  | .inl x => .int (Int32.ofInt x)
  | .inr (.inl none) => .null
  | .inr (.inl (some a)) => .ref (gB G + a)
  | .inr (.inr (.inl x)) => .long (Int64.ofInt x)
  | .inr (.inr (.inr false)) => .null
  | .inr (.inr (.inr true)) => .ref (gS G)
def cf (G : GT) (o : Option Nat) : Option Nat := match o with
  | none => none
  | some a => some (gB G + a)
theorem cv_rf (G : GT) (o : Option Nat) : va_rf (cf G o) = cv G (Vr o) := by cases o <;> rfl
/-- the classes whose objects there are -/
abbrev cls : List vw_C := [(RX0, TX0, 7), (RX1, TX1, 8), (RX2, TX2, 10), (RX3, TX3, 6), (RX4, TX4, 11), (RX5, TX5, 10), (RX6, TX6, 33)]
def cT (ci : Nat) : vw_C := match ci with
  | 0 => (RX0, TX0, 7) | 1 => (RX1, TX1, 8) | 2 => (RX2, TX2, 10) | 3 => (RX3, TX3, 6) | 4 => (RX4, TX4, 11) | 5 => (RX5, TX5, 10) | _ => (RX6, TX6, 33)
def cY (ci : Nat) : Nat → FieldType := match ci with
  | 0 => tyX0 | 1 => tyX1 | 2 => tyX2 | 3 => tyX3 | 4 => tyX4 | 5 => tyX5 | _ => tyX6
def fI (t : FieldType) : Bool := match t with
  | .int => true
  | .boolean => true
  | _ => false
/-- an object's fields -/
def fl (G : GT) (σ : Sg) (ci a : Nat) : List Value := (List.range (cT ci).2.2).map (fun j => if fI (cY ci j) = true then cv G (Vi (hI σ a j)) else cv G (Vr (hR σ a j)))
/-- a cell: kind 1 to 7 objects, 10 int[], 11 boolean[], above references -/
def ce (G : GT) (σ : Sg) (a : Nat) : va_E :=
  if (sk σ a).1 < 10 then .inr ((sk σ a).1 - 1, fl G σ ((sk σ a).1 - 1) a)
  else if (sk σ a).1 < 12 then .inl (G.2.1 (sk σ a).1, (sk σ a).2, .inl (fun j => Int32.ofInt (hI σ a j)))
  else .inl (G.2.1 (sk σ a).1, (sk σ a).2, .inr (.inr (.inr (.inr (fun j => cf G (hR σ a j))))))
def wl (G : GT) (σ : Sg) : va_W := (List.range (sn σ)).map (fun a => (gB G + a, ce G σ a))
def tyl (G : GT) : List (ClassId × FieldType) := [(G.2.1 10, .int), (G.2.1 11, .boolean), (G.2.1 12, .object RX1), (G.2.1 13, .object RX4), (G.2.1 14, .object RX3), (G.2.1 15, .array .int)]
theorem wl_get (G : GT) {σ : Sg} {a : Nat} (h : a < sn σ) : (wl G σ)[a]? = some (gB G + a, ce G σ a) := by
  unfold wl
  rw [List.getElem?_map, List.getElem?_range h]
  rfl
theorem wl_len (G : GT) (σ : Sg) : (wl G σ).length = sn σ := by simp [wl]
theorem wl_set (G : GT) {σ σ' : Sg} {a : Nat} {e : va_E} (hn : sn σ' = sn σ) (he : ce G σ' a = e) (ho : ∀ b, b < sn σ → b ≠ a → ce G σ' b = ce G σ b) : (wl G σ).set a (gB G + a, e) = wl G σ' := by
  apply List.ext_getElem?
  intro i
  by_cases hi : i < sn σ
  · rw [wl_get G (σ := σ') (by omega)]
    by_cases h : i = a
    · subst h
      rw [List.getElem?_set_self (by rw [wl_len]; exact hi), he]
    · rw [List.getElem?_set_ne (Ne.symm h), wl_get G hi, ho i hi h]
  · rw [List.getElem?_eq_none (by rw [List.length_set, wl_len]; omega), List.getElem?_eq_none (by rw [wl_len]; omega)]
theorem wl_push (G : GT) {σ σ' : Sg} {e : va_E} (hn : sn σ' = sn σ + 1) (he : ce G σ' (sn σ) = e) (ho : ∀ b, b < sn σ → ce G σ' b = ce G σ b) : wl G σ ++ [(gB G + sn σ, e)] = wl G σ' := by
  apply List.ext_getElem?
  intro i
  by_cases hi : i < sn σ
  · rw [List.getElem?_append_left (by rw [wl_len]; exact hi), wl_get G hi, wl_get G (σ := σ') (by omega), ho i hi]
  · by_cases h : i = sn σ
    · subst h
      rw [List.getElem?_append_right (by rw [wl_len]; exact Nat.le_refl _), wl_len, Nat.sub_self, wl_get G (σ := σ') (by omega), he]
      rfl
    · rw [List.getElem?_eq_none (by rw [List.length_append, wl_len]; simp; omega), List.getElem?_eq_none (by rw [wl_len]; omega)]
/-- the tables' words that hold in every state behind the start -/
def gT : List Cond := lw_tbl.filter goodWord
theorem gT_in {w : Cond} (i : Nat) (h : tables_1[i]? = some w) (hg : goodWord w = true) : w ∈ gT := List.mem_filter.mpr ⟨List.mem_append_right _ (List.mem_of_getElem? h), hg⟩
theorem gT_sel {w : Cond} (i : Nat) (h : (k2_sels lw_privs)[i]? = some w) (hg : goodWord w = true) : w ∈ gT := List.mem_filter.mpr ⟨List.mem_append_left _ (List.mem_of_getElem? h), hg⟩
theorem gT_good : ∀ w ∈ gT, (w.onTables && w.keeps) = true ∨ ∃ ty, w = .arrayClass ty := fun w h => good_of_word (List.mem_filter.mp h).2
/-- the others: nest mates' links, arrays over a class -/
def nG (U : State) : Prop := (∀ (o : String) (i : Nat) (y : MethodName), Cond.methodLinkNest o i y RX5 ∈ tables_1 → va_Nw (.methodLinkNest o i y RX5) U) ∧ (va_AO RX1 U ∧ va_AO RX3 U ∧ va_AO RX4 U) ∧ (Cond.arrayOver (.array .int)).before #[] U = true
theorem ao_moved {t : FieldType} {u U : State} (hvm : u.vm.Alike U.vm) (h : (Cond.arrayOver (.array t)).before #[] u = true) : (Cond.arrayOver (.array t)).before #[] U = true := by
  obtain ⟨comp, c, k, h1, h2, h3, h4, h5⟩ := arrayOverA_spec h
  obtain ⟨k', hk', he⟩ := hvm.2.2 _ _ h3
  have hi : (U.vm.classes.findIdx? fun (x : Class) => match x.kind with | .array component _ => component == comp | _ => false) = some c := by
    have hb := va_idx_bare U.vm comp
    have hb' := va_idx_bare u.vm comp
    have e : U.vm.bare = u.vm.bare := by first | exact hvm.bare_eq | exact hvm.bare_eq.symm
    rw [← e] at hb'
    exact hb.symm.trans (hb'.trans h2)
  have hkind : k'.kind = .array comp (.array t) := by rw [he]; exact h4
  have f1 : U.vm.findClass (FieldType.array t).toString = some comp := by rw [hvm.findClass]; exact h1
  have f2 : U.vm.findClass ("[" ++ (FieldType.array t).toString) = some c := by rw [hvm.findClass]; exact h5
  unfold Cond.before Cond.holds
  simp only [Cond.value]
  rw [f1, Option.bind_some]
  refine (congrArg (fun o : Option Nat => (o.bind (fun c => (U.vm.classes[c]?).map fun (k : Class) => match k.kind with | .array _ ty => decide (ty = FieldType.array t) && decide (U.vm.findClass ("[" ++ (FieldType.array t).toString) = some c) | _ => false) == some true)) hi).trans ?_
  simp [hk', hkind, f2]
theorem nG_warm {s U : State} (hW : s.WarmedH U.vm) (h : nG s) : nG U :=
  ⟨fun o i y hw => (h.1 o i y hw).warmM hW, ⟨h.2.1.1.moved hW.alike, h.2.1.2.1.moved hW.alike, h.2.1.2.2.moved hW.alike⟩, ao_moved hW.alike h.2.2⟩
theorem nG_same {s U : State} (hv : s.vm = U.vm) (h : nG s) : nG U :=
  ⟨fun o i y hw => (h.1 o i y hw).same rfl hv, ⟨h.2.1.1.moved (hv ▸ Vm.Alike.refl _), h.2.1.2.1.moved (hv ▸ Vm.Alike.refl _), h.2.1.2.2.moved (hv ▸ Vm.Alike.refl _)⟩, ao_moved (hv ▸ Vm.Alike.refl _) h.2.2⟩
/-- what the heap H holds, under the tables and the first heap of s -/
def RepS (G : GT) (σ : Sg) (s : State) (H : Heap) (locs : List Loc) : Prop :=
  H.size = gB G + sn σ ∧ va_P G.1 cls (wl G σ) H ∧ va_D (fun q => gB G ≤ q) (wl G σ) ∧ va_S (fun q => gB G ≤ q) s.heap H locs ∧ va_K G.1 cls (tyl G) s ∧ nG s ∧ gB G ≤ s.heap.size ∧ gS G < gB G ∧ va_X (gS G) (gL G) (gX G) s s.heap ∧ ∀ a, (sk σ a).1 ≠ 0 → a < sn σ
theorem rep_go {G : GT} {σ : Sg} {s t : State} {H : Heap} {locs : List Loc} (h : RepS G σ s H locs) (ht : t.heap = H) (hW : s.WarmedH t.vm) : RepS G σ t t.heap [] := by
  obtain ⟨h1, h2, h3, h4, h5, h6, h7, h8, h9, h10⟩ := h
  subst ht
  refine ⟨h1, h2, h3, va_S.rf, va_K.moved hW.alike h5, nG_warm hW h6, by omega, h8, ?_, h10⟩
  exact va_X.moved hW.alike (h9.kept (h4.2.1 _ (by omega) (by omega)))
theorem rep_call {G : GT} {σ σ' : Sg} {s st t : State} {H H' : Heap} {locs L : List Loc} (h : RepS G σ s H locs) (hst : st.heap = H) (h' : RepS G σ' t t.heap []) (hH : H' = t.heap) (hz : st.heap.size ≤ t.heap.size) (hk : ∀ q, q < gB G → t.heap[q]? = st.heap[q]?) (hL : ∀ q ∈ L, gB G ≤ q.base) : RepS G σ' s H' (locs ++ L) := by
  obtain ⟨h1, h2, h3, h4, h5, h6, h7, h8, h9, h10⟩ := h
  obtain ⟨g1, g2, g3, g4, g5, g6, g7, g8, g9, g10⟩ := h'
  subst hH
  subst hst
  refine ⟨g1, g2, g3, ⟨Nat.le_trans h4.1 hz, fun q a b => ?_, fun q hq => ?_⟩, h5, h6, h7, h8, h9, g10⟩
  · rw [hk q (by omega)]
    exact h4.2.1 q a b
  · rcases List.mem_append.mp hq with x | x
    · exact h4.2.2 q x
    · exact hL q x
-- locals
def prs (G : GT) : Nat → List AV → List (Nat × Value)
  | _, [] => []
  | i, (.inr (.inr (.inr false))) :: t => prs G (i + 1) t
  | i, v :: t => (i, cv G v) :: prs G (i + 1) t
theorem prs_mem (G : GT) : ∀ (ls : List AV) (i : Nat) (q : Nat × Value), q ∈ prs G i ls ↔ ∃ j v, ls[j]? = some v ∧ v ≠ Vu ∧ q = (i + j, cv G v)
  | [], i, q => by simp [prs]
  | v :: t, i, q => by
    have ih := prs_mem G t (i + 1) q
    have key : (∃ j w, (v :: t)[j]? = some w ∧ w ≠ Vu ∧ q = (i + j, cv G w)) ↔ ((v ≠ Vu ∧ q = (i, cv G v)) ∨ ∃ j w, t[j]? = some w ∧ w ≠ Vu ∧ q = (i + 1 + j, cv G w)) := by
      constructor
      · rintro ⟨j, w, h1, h2, h3⟩
        cases j with
        | zero =>
          simp at h1
          subst h1
          exact Or.inl ⟨h2, by simpa using h3⟩
        | succ j =>
          simp at h1
          exact Or.inr ⟨j, w, h1, h2, by rw [h3]; congr 1; omega⟩
      · rintro (⟨h1, h2⟩ | ⟨j, w, h1, h2, h3⟩)
        · exact ⟨0, v, by simp, h1, by simpa using h2⟩
        · exact ⟨j + 1, w, by simpa using h1, h2, by rw [h3]; congr 1; omega⟩
    rw [key, ← ih]
    rcases v with x | o | x | (_ | _)
    · simp [prs]
    · simp [prs]
    · simp [prs]
    · simp [prs]
    · simp [prs]
theorem lv_ld {G : GT} {ls : List AV} {lsC : Array Slot} {n i : Nat} {v : AV} (h : lv_has lsC n (prs G 0 ls)) (hv : ls[i]? = some v) (hu : v ≠ Vu) : lsC[i]? = some (.val (cv G v)) :=
  h.2.2 (i, cv G v) ((prs_mem G ls 0 _).mpr ⟨i, v, hv, hu, by simp⟩)
theorem lv_mono {lsC : Array Slot} {n : Nat} {l l' : List (Nat × Value)} (h : lv_has lsC n l) (hs : ∀ q ∈ l', q ∈ l) : lv_has lsC n l' := ⟨h.1, h.2.1, fun q hq => h.2.2 q (hs q hq)⟩
/-- no long that is alive begins just below the place -/
def nol (ls : List AV) (i : Nat) : Prop := ∀ x, i ≠ 0 → ls[i - 1]? ≠ some (Vl x)
theorem cat_cv (G : GT) (v : AV) : (cv G v).category = 2 ↔ ∃ x, v = Vl x := by
  rcases v with x | (_ | o) | x | (_ | _) <;> simp [cv, Value.category]
theorem st1 {G : GT} {ls : List AV} {lsC : Array Slot} {n i : Nat} {v : AV} (hi : i < ls.length) (hn : nol ls i) : ∀ q ∈ prs G 0 (ls.set i v), q ∈ (i, cv G v) :: (prs G 0 ls).filter (fun q => !(q.1 == i) && !(q.1 + 1 == i && q.2.category == 2)) := by
  intro q hq
  obtain ⟨j, w, h1, h2, h3⟩ := (prs_mem G _ 0 q).mp hq
  rw [Nat.zero_add] at h3
  by_cases e : j = i
  · subst e
    rw [List.getElem?_set_self hi] at h1
    cases h1
    rw [h3]
    exact List.mem_cons_self
  · rw [List.getElem?_set_ne (Ne.symm e)] at h1
    refine List.mem_cons_of_mem _ (List.mem_filter.mpr ⟨(prs_mem G ls 0 q).mpr ⟨j, w, h1, h2, by rw [h3, Nat.zero_add]⟩, ?_⟩)
    rw [h3]
    have h4 : ¬ (j + 1 = i ∧ (cv G w).category = 2) := by
      rintro ⟨e1, e2⟩
      obtain ⟨x, rfl⟩ := (cat_cv G w).mp e2
      exact hn x (by omega) (by rw [show i - 1 = j by omega]; exact h1)
    have h5 : (j == i) = false := by simpa using e
    simp only [h5, Bool.not_false, Bool.true_and, Bool.not_eq_true']
    cases h6 : (j + 1 == i && (cv G w).category == 2) with
    | false => rfl
    | true =>
      simp at h6
      exact absurd h6 h4
theorem st2 {G : GT} {ls : List AV} {lsC : Array Slot} {n i : Nat} {v : AV} (hi : i + 1 < ls.length) (hn : nol ls i) : ∀ q ∈ prs G 0 ((ls.set i v).set (i + 1) Vu), q ∈ (i, cv G v) :: (prs G 0 ls).filter (fun q => !(q.1 == i) && (!(q.1 == i + 1) && !(q.1 + 1 == i && q.2.category == 2))) := by
  intro q hq
  obtain ⟨j, w, h1, h2, h3⟩ := (prs_mem G _ 0 q).mp hq
  rw [Nat.zero_add] at h3
  by_cases e0 : j = i + 1
  · subst e0
    rw [List.getElem?_set_self (by simpa using hi)] at h1
    cases h1
    exact absurd rfl h2
  rw [List.getElem?_set_ne (Ne.symm e0)] at h1
  by_cases e : j = i
  · subst e
    rw [List.getElem?_set_self (by omega)] at h1
    cases h1
    rw [h3]
    exact List.mem_cons_self
  · rw [List.getElem?_set_ne (Ne.symm e)] at h1
    refine List.mem_cons_of_mem _ (List.mem_filter.mpr ⟨(prs_mem G ls 0 q).mpr ⟨j, w, h1, h2, by rw [h3, Nat.zero_add]⟩, ?_⟩)
    rw [h3]
    have h4 : ¬ (j + 1 = i ∧ (cv G w).category = 2) := by
      rintro ⟨e1, e2⟩
      obtain ⟨x, rfl⟩ := (cat_cv G w).mp e2
      exact hn x (by omega) (by rw [show i - 1 = j by omega]; exact h1)
    have h5 : (j == i) = false := by simpa using e
    have h7 : (j == i + 1) = false := by simpa using e0
    simp only [h5, h7, Bool.not_false, Bool.true_and, Bool.not_eq_true']
    cases h6 : (j + 1 == i && (cv G w).category == 2) with
    | false => rfl
    | true =>
      simp at h6
      exact absurd h6 h4
-- ===== the judgement: from here the method comes to its end with Q =====
def cOK (M : MM) (p : Program) (s : State) (m : MethodId) (args : Array Value) (meth : Method) (c : Code) : Prop :=
  p.tables.exec = Jvm.exec ∧ c.code = bc M ∧ meth.sig.returnType = M.2.2.2 ∧ c.maxLocals = M.2.2.1 ∧ s.vm.findClass M.1.cls = some m.cls ∧ (∀ w ∈ gT, w.before args s = true) ∧ meth.locks = false ∧ (M.1.name = "<init>" → meth.name = "<init>")
def hRt (M : MM) (pc : Nat) (v : Option AV) (st : List AV) : Prop := match v with
  | none => decode (bc M) pc = .ok (.return_, 1) ∧ M.2.2.2 = none ∧ st = []
  | some (.inl x) => decode (bc M) pc = .ok (.ireturn, 1) ∧ st = [Vi x] ∧ (M.2.2.2 = some .int ∨ (M.2.2.2 = some .boolean ∧ (x = 0 ∨ x = 1)))
  | some (.inr (.inl o)) => decode (bc M) pc = .ok (.areturn, 1) ∧ st = [Vr o] ∧ ((∃ n, M.2.2.2 = some (.object n)) ∨ ∃ t, M.2.2.2 = some (.array t))
  | _ => False
def WA (G : GT) (d k n : Nat) (M : MM) (pc : Nat) (ls st : List AV) (σ : Sg) (Q : Option AV → Sg → Prop) : Prop :=
  ∀ (p : Program) (l : Launch) (e : Env) (R : Room) (s : State) (m : MethodId) (args : Array Value) (below : List Frame) (meth : Method) (c : Code) (QM : State → Prop) (mc ms : Nat),
    cOK M p s m args meth c → d ≤ R.frames → 64 * d ≤ R.locals → mc ≤ R.cells → ms ≤ R.slots →
    (∀ (v : Option AV) (σ' : Sg) (H : Heap) (locs : List Loc) (pc : Nat) (lsC : Array Slot) (st : List AV), hRt M pc v st → Q v σ' → RepS G σ' s H locs → W p l e R s m args below meth c H locs mc ms QM (F0 m pc lsC (st.map (cv G)))) →
    ∀ (H : Heap) (locs : List Loc) (cells slots : Nat) (lsC : Array Slot), RepS G σ s H locs → lv_has lsC M.2.2.1 (prs G 0 ls) → cells + k ≤ mc → slots + n ≤ ms →
      W p l e R s m args below meth c H locs cells slots QM (F0 m pc lsC (st.map (cv G)))
theorem WA.ret {G : GT} {d k n : Nat} {M : MM} {pc : Nat} {ls st : List AV} {σ : Sg} {Q : Option AV → Sg → Prop} (v : Option AV) (h : hRt M pc v st) (hQ : Q v σ) : WA G d k n M pc ls st σ Q := by
  intro p l e R s m args below meth c QM mc ms C hfr hlo hmc hms hret H locs cells slots lsC hR hL h1 h2
  exact W.widen (by omega) (by omega) (hret v σ H locs pc lsC st h hQ hR)
theorem WA.mono {G : GT} {d k n : Nat} {M : MM} {pc : Nat} {ls st : List AV} {σ : Sg} {Q Q' : Option AV → Sg → Prop} (h : WA G d k n M pc ls st σ Q) (hQ : ∀ v σ', Q v σ' → Q' v σ') : WA G d k n M pc ls st σ Q' := by
  intro p l e R s m args below meth c QM mc ms C hfr hlo hmc hms hret H locs cells slots lsC hR hL h1 h2
  exact h p l e R s m args below meth c QM mc ms C hfr hlo hmc hms (fun v σ' H locs pc lsC st a b c => hret v σ' H locs pc lsC st a (hQ v σ' b) c) H locs cells slots lsC hR hL h1 h2
theorem WA.room {G : GT} {d d' k k' n n' : Nat} {M : MM} {pc : Nat} {ls st : List AV} {σ : Sg} {Q : Option AV → Sg → Prop} (h : WA G d' k' n' M pc ls st σ Q) (hd : d' ≤ d) (hk : k' ≤ k) (hn : n' ≤ n) : WA G d k n M pc ls st σ Q := by
  intro p l e R s m args below meth c QM mc ms C hfr hlo hmc hms hret H locs cells slots lsC hR hL h1 h2
  exact h p l e R s m args below meth c QM mc ms C (by omega) (by omega) hmc hms hret H locs cells slots lsC hR hL (by omega) (by omega)
-- contracts
def wS (M : MM) : List Cond := .code M.1 (bc M) M.2.2.1 M.2.2.2 :: gT
def pA (G : GT) (σ : Sg) (av : List AV) : Array Value → State → Prop := fun v U => v = (av.map (cv G)).toArray ∧ RepS G σ U U.heap []
def qA (G : GT) (Q : Option AV → Sg → Prop) : Array Value → State → Outcome → State → Prop := fun _ st o t => ∃ (v : Option AV) (σ' : Sg), o = .returned (v.map (cv G)) ∧ Q v σ' ∧ RepS G σ' t t.heap [] ∧ st.heap.size ≤ t.heap.size ∧ ∀ q, q < gB G → t.heap[q]? = st.heap[q]?
theorem rep_blind {G : GT} {σ : Sg} {av : List AV} : FrameBlind (pA G σ av) := by
  intro a U g mk h
  obtain ⟨q0, h1, h2, h3, h4, h5, h6, h7, h8, h9, h10⟩ := h
  exact ⟨q0, h1, h2, h3, va_S.rf, va_K.moved (u := U) (U := U.calling g mk a) (Vm.Alike.refl U.vm) h5, nG_same (U := U.calling g mk a) rfl h6, h7, h8, va_X.moved (u := U) (U := U.calling g mk a) (Vm.Alike.refl U.vm) h9, h10⟩
set_option maxHeartbeats 4000000 in
theorem met_of {G : GT} {l : Launch} {d k n : Nat} {M : MM} {ls av : List AV} {σ : Sg} {Q : Option AV → Sg → Prop} (hpl : plainName M.1.cls = true) (hE : prs G 0 ls = lv_args 0 (av.map (cv G))) (hlen : (lg_sl (av.map (cv G))).length ≤ M.2.2.1) (h : WA G d k n M 0 ls [] σ Q) :
    Met l M.1 (wS M) ({ frames := d, cells := k, slots := n, locals := 64 * d }) (pA G σ av) (qA G Q) k n (fun q => gB G ≤ q) := by
  refine Met.ofW (cc := bc M) (maxL := M.2.2.1) (ret := M.2.2.2) hpl rfl ?_
  intro p e s m args below meth c s₁ B hml hv
  obtain ⟨rfl, hRU⟩ := hv
  have hts := atoms_spec (ws := wS M) B.pre
  have hlv := lv_entry (av.map (cv G)) (n := M.2.2.1) hlen
  rw [lg_entry_eq]
  rw [← hE] at hlv
  refine h p l e _ s m _ below meth c _ k n ⟨B.exec, B.bytes, B.returns, hml, findClass_of_methodNamed B.named, fun w hw => hts w (List.mem_cons_of_mem _ hw), B.notSynchronized, fun hn => ?_⟩ (Nat.le_refl _) (Nat.le_refl _) (Nat.le_refl _) (Nat.le_refl _) ?_ s.heap [] 0 0 _ hRU hlv (by omega) (by omega)
  · rw [(name_of_methodNamed B.named B.method).1]
    exact hn
  · intro v σ' H locs pc lsC st h1 hQ hR
    have hend : ∀ t : State, t.heap = H → s.WarmedH t.vm → qA G Q (av.map (cv G)).toArray s (.returned (v.map (cv G))) t := by
      intro t ht hW
      refine ⟨v, σ', rfl, hQ, rep_go hR ht hW, by rw [ht]; exact hR.2.2.2.1.1, fun q hq => ?_⟩
      rw [ht]
      have hb := hR.2.2.2.2.2.2.1
      exact hR.2.2.2.1.2.1 q (by omega) (by omega)
    have hlocs := hR.2.2.2.1.2.2
    rcases v with _ | (x | (o | (_ | _)))
    · obtain ⟨e1, e2, e3⟩ := h1
      subst e3
      exact W.vret B.exec B.bytes (B.returns.trans e2) hend hlocs e1
    · obtain ⟨e1, e3, e2⟩ := h1
      subst e3
      rcases e2 with e2 | ⟨e2, e4⟩
      · exact W.zret B.exec B.bytes (B.returns.trans e2) rfl hend hlocs e1
      · refine W.zret B.exec B.bytes (B.returns.trans e2) ?_ hend hlocs e1
        rcases e4 with rfl | rfl <;> decide
    · obtain ⟨e1, e3, e2⟩ := h1
      subst e3
      have hv : cv G (Vr o) = .null ∨ ∃ a, cv G (Vr o) = .ref a := by
        cases o with
        | none => exact Or.inl rfl
        | some a => exact Or.inr ⟨_, rfl⟩
      rcases e2 with ⟨n, e2⟩ | ⟨t, e2⟩
      · exact W.aret B.exec B.bytes (B.returns.trans e2) (Or.inl ⟨_, rfl⟩) hv hend hlocs e1
      · exact W.aret B.exec B.bytes (B.returns.trans e2) (Or.inr ⟨_, rfl⟩) hv hend hlocs e1
    · exact h1.elim
    · exact h1.elim
