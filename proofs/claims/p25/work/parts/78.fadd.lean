/-! a folder comes into the pool -/
def adF (AD : Nat → Nat → Nat) (n b u1 u2 d6 : Nat) : Nat → Nat → Nat := fun g j =>
  if g = 1 then (if j = n then b else AD 1 j) else if g = 2 then (if j = n then u1 else AD 2 j) else if g = 3 then (if j = n then u2 else AD 3 j) else if g = 4 then (if j = n then AD 7 0 else AD 4 j) else if g = 6 then (if j = 0 then d6 else AD 6 j) else AD g j
section AF
variable {D : va_G} {H H1 : Heap} {cI cO : ClassId} {L L' : List Nat} {f f' : Nat → va_E} {tg tg' : Nat → Nat} {AD : Nat → Nat → Nat} {mc : Nat → Int32} {F F' : Nat → Nat → Int32} {ik kp tu : Nat → Int32} {n : Nat} {he gv : Nat → Int32} {gp gb ob nm lo : Int32} {A : Nat → Prop} {b u1 u2 d6 x : Nat}
theorem adF_0 : adF AD n b u1 u2 d6 0 = AD 0 := rfl
theorem adF_5 : adF AD n b u1 u2 d6 5 = AD 5 := rfl
theorem adF_7 : adF AD n b u1 u2 d6 7 = AD 7 := rfl
theorem adF_1 (j : Nat) : adF AD n b u1 u2 d6 1 j = if j = n then b else AD 1 j := rfl
theorem adF_2 (j : Nat) : adF AD n b u1 u2 d6 2 j = if j = n then u1 else AD 2 j := rfl
theorem adF_3 (j : Nat) : adF AD n b u1 u2 d6 3 j = if j = n then u2 else AD 3 j := rfl
theorem adF_4 (j : Nat) : adF AD n b u1 u2 d6 4 j = if j = n then AD 7 0 else AD 4 j := rfl
theorem adF_6 : adF AD n b u1 u2 d6 6 0 = d6 := rfl
theorem nI_m1 {k : Nat} (h : k < 2 ^ 31) : ¬ nI k = -1 := fun e => nI_pos h (by rw [e]; decide)
theorem Rep.addF {m' : Nat} {q' : Nat → Option Nat} {ow9 : Int32} (h : Rep cI cO L f tg AD mc F ik kp tu n he gv gp gb ob nm lo) (hM : okC F n) (hn : n < 20) (hx : x < n) (g : extT L L' f f' tg tg' (fun t => t = 8 ∨ t = 9))
    (h8 : Hs L' f' (AD 0 8) (.inr (0, [.int (mc 0 + 1), .ref d6, .int (nI (n + 1))]))) (t8 : tg' (AD 0 8) = 8) (h6 : Hs L' f' d6 (refs cO m' q')) (t6 : tg' d6 = 9) (hm1 : n + 1 ≤ m') (hm2 : m' = 10 ∨ m' = 15 ∨ m' = 22) (hq : ∀ i, i < n → q' i = some (AD 1 i)) (hqn : q' n = some b)
    (hb : Hs L' f' b (.inr (2, [.ref (AD 1 x), .ref u1, .ref u2, .int ow9, .int 1, .int 0, .int 0]))) (tb : tg' b = 100 + n)
    (h1 : Hs L' f' u1 (.inr (0, [.int 0, .ref (AD 7 0), .int 0]))) (t1 : tg' u1 = 200 + n) (h2 : Hs L' f' u2 (i0 cI 8)) (t2 : tg' u2 = 300 + n)
    (z6 : F 6 n = 0) (zi : ik n = 0) (zt : tu n = 0) (zk : ∀ p, p < 8 → kp (8 * n + p) = 0)
    (e1 : F' 1 = F 1) (e2 : F' 2 = F 2) (e3 : F' 3 = upd (F 3) n (nI x)) (e4 : F' 4 = upd (F 4) n ow9) (e5 : F' 5 = upd (F 5) n 1) (e6 : F' 6 = F 6) (e7 : F' 7 = F 7) (e8 : F' 8 = F 8) (e9 : F' 9 = F 9) (e10 : F' 10 = F 10) :
    Rep cI cO L' f' tg' (adF AD n b u1 u2 d6) (upd (upd mc 0 (mc 0 + 1)) (n + 1) 0) F' ik kp tu (n + 1) he gv gp gb ob nm lo := by
  have t := h.2.2.2.2
  obtain ⟨ev, h04, _⟩ := h.ev
  refine ⟨((h.1.et t g (fun j hj => by omega)).cg e1 e2).ad adF_0, (h.2.1.et t g (fun j a1 a2 => by omega)).ad adF_0, ?_, fun j hj => ?_, ?_⟩
  · unfold RpTree
    rw [adF_0, adF_6, pk_un (show (0 : Nat) ≠ n + 1 by omega), pk_us]
    refine ⟨h8, m', q', h6, hm1, hm2, fun i hi => ?_⟩
    rw [adF_1]
    by_cases c : i = n
    · rw [if_pos c, c]; exact hqn
    · rw [if_neg c]; exact hq i (by omega)
  · by_cases c : j = n
    · subst c
      have ep : parR (adF AD j b u1 u2 d6) F' j = some (AD 1 x) := by
        unfold parR
        rw [e3, pk_us, if_neg (nI_m1 (by omega)), i2n_nI (by omega), adF_1, if_neg (by omega)]
      unfold RpFold
      rw [ep, adF_1, if_pos rfl, adF_2, if_pos rfl, adF_3, if_pos rfl, adF_4, if_pos rfl, e4, e5, e6, pk_us, pk_us, pk_us, zi, zt, z6]
      exact ⟨hb, ⟨fun _ => 0, h2, fun p hp => (zk p hp).symm⟩, h1, Or.inl ⟨rfl, rfl⟩, fun m hm => absurd hm (Nat.not_lt_zero _)⟩
    · have hjn : j < n := by omega
      obtain ⟨a1, ⟨kk, a2, a3⟩, a4, a5, a6⟩ := (h.2.2.2.1 j hjn).et t hjn g (by omega) (by omega) (by omega) (by omega) (fun m hm => by omega)
      have ep : parR (adF AD n b u1 u2 d6) F' j = parR AD F j := by
        unfold parR
        rw [e3, pk_un c]
        by_cases hne : F 3 j = -1
        · rw [if_pos hne, if_pos hne]
        · have hp := (hM.par hjn hne).2
          rw [if_neg hne, if_neg hne, adF_1, if_neg (by omega)]
      unfold RpFold
      rw [ep, adF_1, if_neg c, adF_2, if_neg c, adF_3, if_neg c, adF_4, if_neg c, adF_5, adF_7, e4, e5, e6, e7, e8, e9, e10, pk_un c, pk_un c, pk_un (show j + 1 ≠ n + 1 by omega), pk_un (show j + 1 ≠ 0 by omega)]
      exact ⟨a1, ⟨kk, a2, a3⟩, a4, a5, a6⟩
  · refine ⟨fun k hk => ?_, t6, fun i hi => ?_⟩
    · show tg' (AD 0 k) = k
      rcases (show k = 0 ∨ k = 1 ∨ k = 2 ∨ k = 3 ∨ k = 4 ∨ k = 5 ∨ k = 6 ∨ k = 7 ∨ k = 8 by omega) with rfl | rfl | rfl | rfl | rfl | rfl | rfl | rfl | rfl
      · exact h.x.ett g (t.1 0 (by decide)) (by omega)
      · exact h.g.ett g (t.1 1 (by decide)) (by omega)
      · exact h.1.2.2.1.ett g (t.1 2 (by decide)) (by omega)
      · exact h.1.2.2.2.1.ett g (t.1 3 (by decide)) (by omega)
      · exact h04.ett g (t.1 4 (by decide)) (by omega)
      · exact h.mo.ett g (t.1 5 (by decide)) (by omega)
      · exact h.mh.ett g (t.1 6 (by decide)) (by omega)
      · exact h.mg.ett g (t.1 7 (by decide)) (by omega)
      · exact t8
    · rw [adF_1, adF_2, adF_3]
      by_cases c : i = n
      · rw [if_pos c, if_pos c, if_pos c, c]; exact ⟨tb, t1, t2⟩
      · rw [if_neg c, if_neg c, if_neg c]
        obtain ⟨v1, v2, v3⟩ := t.2.2 i (by omega)
        obtain ⟨kk, h3, _⟩ := h.ke (show i < n by omega)
        exact ⟨(h.fo (show i < n by omega)).ett g v1 (by omega), (h.ro (show i < n by omega)).ett g v2 (by omega), h3.ett g v3 (by omega)⟩
/-- the tree's list -/
def trA (AD : Nat → Nat → Nat) : Nat → Prop := fun q => q = AD 0 8 ∨ q = AD 6 0
theorem Rep.trNe (h : Rep cI cO L f tg AD mc F ik kp tu n he gv gp gb ob nm lo) : AD 0 8 ≠ AD 6 0 := fun e => by
  have t := h.2.2.2.2
  have a1 := t.1 8 (by decide)
  have a2 := t.2.1
  rw [e, a2] at a1; omega
theorem Rep.trAp (h : Rep cI cO L f tg AD mc F ik kp tu n he gv gp gb ob nm lo) : apD 2 (trA AD) (fun z => AD (6 * z) (8 - 8 * z)) := by
  have hne := h.trNe
  refine ⟨fun u v hu hv e => ?_, fun v hv => ?_⟩
  · have e' : AD (6 * u) (8 - 8 * u) = AD (6 * v) (8 - 8 * v) := e
    rcases (show u = 0 ∨ u = 1 by omega) with rfl | rfl <;> rcases (show v = 0 ∨ v = 1 by omega) with rfl | rfl
    · rfl
    · exact absurd e' hne
    · exact absurd e'.symm hne
    · rfl
  · rcases (show v = 0 ∨ v = 1 by omega) with rfl | rfl
    · exact Or.inl rfl
    · exact Or.inr rfl
theorem Rep.trP {m9 : Nat} {qd : Nat → Option Nat} (h : Rep cI cO L f tg AD mc F ik kp tu n he gv gp gb ob nm lo) (hq : Hs L f (AD 6 0) (refs cO m9 qd)) (hP : va_P D vwCl (va_pl L f) H) : va_P D vwCl (alW cO (fun z => AD (6 * z) (8 - 8 * z)) m9 qd (mc 0) (nI n)) H := by
  refine va_P_in hP ?_
  intro q hq2
  simp only [List.mem_cons, List.not_mem_nil, or_false] at hq2
  rcases hq2 with rfl | rfl
  · exact h.t.mem
  · exact hq.mem
theorem Rep.trP2 {m9 : Nat} {qd : Nat → Option Nat} (h : Rep cI cO L f tg AD mc F ik kp tu n he gv gp gb ob nm lo) (hq : Hs L f (AD 6 0) (refs cO m9 qd)) (hP : va_P D vwCl (va_pl L f) H) : va_P D vwCl (l2W cO (AD 0 8) (AD 6 0) m9 qd (mc 0) (AD 6 0) (nI n)) H := by
  refine va_P_in hP ?_
  intro q hq2
  simp only [List.mem_cons, List.not_mem_nil, or_false] at hq2
  rcases hq2 with rfl | rfl
  · exact h.t.mem
  · exact hq.mem
theorem fo_any {s : State} {tys : List (ClassId × FieldType)} {vs : List Value} (hb : Hs L f b (.inr (2, vs))) (hK : va_K D vwCl tys s) (hP : va_P D vwCl (va_pl L f) H) (hC : CO s) : va_Any "java/lang/Object" s H b := by
  obtain ⟨k5, e5⟩ := hb.at
  exact va_rAny hK hP e5 (r := (RX1, TX1, 7)) rfl (vb_asgC hC.2)
/-- a new folder's three cells come into the pool -/
theorem pl_fold3 {e x1 x2 x3 : va_E} {tb ta tc : Nat} (hL : L.Nodup) (hA : ∀ a, a ∈ L → A a) (hAz : ∀ q, H.size ≤ q → A q) (hAb : A b) (hb : b ∉ L) (hP : va_P D vwCl (va_pl L f ++ [(b, e)]) H) (hk : ∀ q : Nat, q < H.size → ¬ alZ b H.size q → H1[q]? = H[q]?) (hP1 : va_P D vwCl [(b, x1), (u1, x2), (u2, x3)] H1) (hD1 : va_D (alZ b H.size) [(b, x1), (u1, x2), (u2, x3)]) :
    ∃ (L' : List Nat) (f' : Nat → va_E) (tg' : Nat → Nat), L'.Nodup ∧ (∀ a, a ∈ L' → A a) ∧ va_P D vwCl (va_pl L' f') H1 ∧ extL L L' f f' tg tg' ∧ Hs L' f' b x1 ∧ tg' b = tb ∧ Hs L' f' u1 x2 ∧ tg' u1 = ta ∧ Hs L' f' u2 x3 ∧ tg' u2 = tc := by
  have n1 : b ≠ u1 := fun e => absurd (hD1.1 0 1 _ _ rfl rfl e) (by decide)
  have n2 : b ≠ u2 := fun e => absurd (hD1.1 0 2 _ _ rfl rfl e) (by decide)
  have n3 : u1 ≠ u2 := fun e => absurd (hD1.1 1 2 _ _ rfl rfl e) (by decide)
  have a1 : H.size ≤ u1 := (hD1.2 1 _ rfl).resolve_left (fun e => n1 e.symm)
  have a2 : H.size ≤ u2 := (hD1.2 2 _ rfl).resolve_left (fun e => n2 e.symm)
  have hP0 : va_P D vwCl (va_pl L f) H := va_P_in hP (fun q hq => List.mem_append_left _ hq)
  have hlt : ∀ a, a ∈ L → a < H.size := fun a ha => va_pl_lt (X := []) hP0 ha
  have m1 : u1 ∉ L := fun hh => by have := hlt u1 hh; omega
  have m2 : u2 ∉ L := fun hh => by have := hlt u2 hh; omega
  have k1 : u1 ∉ L ++ [b] := fun hh => (List.mem_append.mp hh).elim m1 (fun h => n1 (List.mem_singleton.mp h).symm)
  have k2 : u2 ∉ (L ++ [b]) ++ [u1] := fun hh => (List.mem_append.mp hh).elim (fun h => (List.mem_append.mp h).elim m2 (fun h => n2 (List.mem_singleton.mp h).symm)) (fun h => n3 (List.mem_singleton.mp h).symm)
  have fu : va_up (va_up (va_up f b x1) u1 x2) u2 x3 u2 = x3 := va_up_self _ _ _
  have f1 : va_up (va_up (va_up f b x1) u1 x2) u2 x3 u1 = x2 := by rw [va_up_ne _ _ n3, va_up_self]
  have fb : va_up (va_up (va_up f b x1) u1 x2) u2 x3 b = x1 := by rw [va_up_ne _ _ n2, va_up_ne _ _ n1, va_up_self]
  have fo : ∀ a, a ∈ L → va_up (va_up (va_up f b x1) u1 x2) u2 x3 a = f a := fun a ha => by
    rw [va_up_ne _ _ (fun e => m2 (by rw [← e]; exact ha)), va_up_ne _ _ (fun e => m1 (by rw [← e]; exact ha)), va_up_ne _ _ (fun e => hb (by rw [← e]; exact ha))]
  have mb : b ∈ ((L ++ [b]) ++ [u1]) ++ [u2] := List.mem_append_left _ (List.mem_append_left _ (List.mem_append_right _ List.mem_cons_self))
  have mu1 : u1 ∈ ((L ++ [b]) ++ [u1]) ++ [u2] := List.mem_append_left _ (List.mem_append_right _ List.mem_cons_self)
  have mu2 : u2 ∈ ((L ++ [b]) ++ [u1]) ++ [u2] := List.mem_append_right _ List.mem_cons_self
  have hcs : ∀ a, a ∈ ((L ++ [b]) ++ [u1]) ++ [u2] → a ∈ L ∨ a = b ∨ a = u1 ∨ a = u2 := fun a ha => by
    simp only [List.mem_append, List.mem_singleton] at ha
    rcases ha with ((h | h) | h) | h
    · exact Or.inl h
    · exact Or.inr (Or.inl h)
    · exact Or.inr (Or.inr (Or.inl h))
    · exact Or.inr (Or.inr (Or.inr h))
  refine ⟨((L ++ [b]) ++ [u1]) ++ [u2], va_up (va_up (va_up f b x1) u1 x2) u2 x3, va_up (va_up (va_up tg b tb) u1 ta) u2 tc, push_nodup (push_nodup (push_nodup hL hb) k1) k2, fun a ha => ?_, ?_, fun a ha => ⟨List.mem_append_left _ (List.mem_append_left _ (List.mem_append_left _ ha)), fo a ha, ?_⟩, ⟨mb, fb⟩, ?_, ⟨mu1, f1⟩, ?_, ⟨mu2, fu⟩, va_up_self _ _ _⟩
  · rcases hcs a ha with h | h | h | h
    · exact hA a h
    · rw [h]; exact hAb
    · rw [h]; exact hAz _ a1
    · rw [h]; exact hAz _ a2
  · intro j q hj
    have hm := List.mem_of_getElem? hj
    obtain ⟨z, hz, ez⟩ := List.mem_map.mp hm
    subst ez
    rcases hcs z hz with h | h | h | h
    · rw [fo z h]
      obtain ⟨kk, hkk⟩ := List.getElem?_of_mem (show (z, f z) ∈ va_pl L f from List.mem_map.mpr ⟨z, h, rfl⟩)
      exact (hP0 kk _ hkk).kept (hk z (hlt z h) (fun hc => hc.elim (fun e => hb (by rw [← e]; exact h)) (fun hc => by have := hlt z h; omega)))
    · subst h; rw [fb]; exact hP1 0 _ rfl
    · subst h; rw [f1]; exact hP1 1 _ rfl
    · subst h; rw [fu]; exact hP1 2 _ rfl
  · rw [va_up_ne _ _ (fun e => m2 (by rw [← e]; exact ha)), va_up_ne _ _ (fun e => m1 (by rw [← e]; exact ha)), va_up_ne _ _ (fun e => hb (by rw [← e]; exact ha))]
  · rw [va_up_ne _ _ n2, va_up_ne _ _ n1, va_up_self]
  · rw [va_up_ne _ _ n3, va_up_self]
/-- behind the tree's add -/
theorem Rep.fin_F {m' : Nat} {q' : Nat → Option Nat} {ow9 : Int32} (h : Rep cI cO L f tg AD mc F ik kp tu n he gv gp gb ob nm lo) (hM : okC F n) (hn : n < 20) (hx : x < n) (hL : L.Nodup) (hA : ∀ a, a ∈ L → A a) (hd : d6 ∉ L ∨ d6 = AD 6 0) (hAd : A d6) (hP : va_P D vwCl (va_pl L f) H) (hk : ∀ q : Nat, q < H.size → q ∈ L → q ≠ AD 0 8 → q ≠ AD 6 0 → H1[q]? = H[q]?)
    (hP1 : va_P D vwCl (l2W cO (AD 0 8) d6 m' q' (mc 0 + 1) d6 (nI (n + 1))) H1) (hm1 : n + 1 ≤ m') (hm2 : m' = 10 ∨ m' = 15 ∨ m' = 22) (hq : ∀ i, i < n → q' i = some (AD 1 i)) (hqn : q' n = some b)
    (hb : Hs L f b (.inr (2, [.ref (AD 1 x), .ref u1, .ref u2, .int ow9, .int 1, .int 0, .int 0]))) (tb : tg b = 100 + n)
    (h1 : Hs L f u1 (.inr (0, [.int 0, .ref (AD 7 0), .int 0]))) (t1 : tg u1 = 200 + n) (h2 : Hs L f u2 (i0 cI 8)) (t2 : tg u2 = 300 + n)
    (z6 : F 6 n = 0) (zi : ik n = 0) (zt : tu n = 0) (zk : ∀ p, p < 8 → kp (8 * n + p) = 0)
    (e1 : F' 1 = F 1) (e2 : F' 2 = F 2) (e3 : F' 3 = upd (F 3) n (nI x)) (e4 : F' 4 = upd (F 4) n ow9) (e5 : F' 5 = upd (F 5) n 1) (e6 : F' 6 = F 6) (e7 : F' 7 = F 7) (e8 : F' 8 = F 8) (e9 : F' 9 = F 9) (e10 : F' 10 = F 10) :
    ∃ (L' : List Nat) (f' : Nat → va_E) (tg' : Nat → Nat), L'.Nodup ∧ (∀ a, a ∈ L' → A a) ∧ va_P D vwCl (va_pl L' f') H1 ∧ Rep cI cO L' f' tg' (adF AD n b u1 u2 d6) (upd (upd mc 0 (mc 0 + 1)) (n + 1) 0) F' ik kp tu (n + 1) he gv gp gb ob nm lo := by
  have t := h.2.2.2.2
  have t8 := t.1 8 (by decide)
  have t9 := t.2.1
  have ht := h.t
  have hlt : ∀ a, a ∈ L → a < H.size := fun a ha => va_pl_lt (X := []) hP ha
  have nd : ∀ a, a ∈ L → tg a ≠ 9 → a ≠ d6 := fun a ha h9 e => hd.elim (fun hh => hh (by rw [← e]; exact ha)) (fun hh => h9 (by rw [e, hh]; exact t9))
  have n8d : AD 0 8 ≠ d6 := nd _ ht.1 (by omega)
  have nb : b ≠ d6 := nd _ hb.1 (by omega)
  have nu1 : u1 ≠ d6 := nd _ h1.1 (by omega)
  have nu2 : u2 ≠ d6 := nd _ h2.1 (by omega)
  have n9 : ∀ a s, tg a = s → s ≠ 9 → a ≠ AD 6 0 := fun a s ha hs e => hs (by rw [← ha, e]; exact t9)
  have n8 : ∀ a s, tg a = s → s ≠ 8 → a ≠ AD 0 8 := fun a s ha hs e => hs (by rw [← ha, e]; exact t8)
  have mf : ∀ a, a ∈ L → a ≠ AD 6 0 → a ∈ L.filter (fun z => decide (z ≠ AD 6 0)) ++ [d6] := fun a ha hne => List.mem_append_left _ (List.mem_filter.mpr ⟨ha, decide_eq_true hne⟩)
  have hPf : va_P D vwCl (va_pl (L.filter (fun z => decide (z ≠ AD 6 0))) f) H := va_P_in hP (fun q hq => by
    obtain ⟨z, hz, ez⟩ := List.mem_map.mp hq
    exact List.mem_map.mpr ⟨z, (List.mem_filter.mp hz).1, ez⟩)
  have hnd : d6 ∉ L.filter (fun z => decide (z ≠ AD 6 0)) := fun hh => hd.elim (fun h => h (List.mem_filter.mp hh).1) (fun h => of_decide_eq_true (List.mem_filter.mp hh).2 h)
  have g : extT L (L.filter (fun z => decide (z ≠ AD 6 0)) ++ [d6]) f (va_up (va_up f d6 (refs cO m' q')) (AD 0 8) (.inr (0, [.int (mc 0 + 1), .ref d6, .int (nI (n + 1))]))) tg (va_up tg d6 9) (fun t => t = 8 ∨ t = 9) := by
    intro a ha hT
    have c8 : a ≠ AD 0 8 := fun e => hT (Or.inl (by rw [e]; exact t8))
    have c9 : a ≠ AD 6 0 := fun e => hT (Or.inr (by rw [e]; exact t9))
    have cd : a ≠ d6 := nd a ha (fun e => hT (Or.inr e))
    exact ⟨mf a ha c9, by rw [va_up_ne _ _ c8, va_up_ne _ _ cd], va_up_ne _ _ cd⟩
  refine ⟨L.filter (fun z => decide (z ≠ AD 6 0)) ++ [d6], _, va_up tg d6 9, push_nodup (hL.filter _) hnd, fun a ha => ?_, pl_two hPf (fun q hq c1 c2 => hk q (hlt q (List.mem_filter.mp hq).1) (List.mem_filter.mp hq).1 c1 (of_decide_eq_true (List.mem_filter.mp hq).2)) (hP1 0 _ rfl) (hP1 1 _ rfl) _ (fun q hq => ?_),
    h.addF hM hn hx g ⟨mf _ ht.1 h.trNe, va_up_self _ _ _⟩ (by rw [va_up_ne _ _ n8d]; exact t8) ⟨List.mem_append_right _ List.mem_cons_self, by rw [va_up_ne _ _ (fun e => n8d e.symm)]; exact va_up_self _ _ _⟩ (va_up_self _ _ _) hm1 hm2 hq hqn
      ⟨mf _ hb.1 (n9 b _ tb (by omega)), by rw [va_up_ne _ _ (n8 b _ tb (by omega)), va_up_ne _ _ nb]; exact hb.2⟩ (by rw [va_up_ne _ _ nb]; exact tb)
      ⟨mf _ h1.1 (n9 u1 _ t1 (by omega)), by rw [va_up_ne _ _ (n8 u1 _ t1 (by omega)), va_up_ne _ _ nu1]; exact h1.2⟩ (by rw [va_up_ne _ _ nu1]; exact t1)
      ⟨mf _ h2.1 (n9 u2 _ t2 (by omega)), by rw [va_up_ne _ _ (n8 u2 _ t2 (by omega)), va_up_ne _ _ nu2]; exact h2.2⟩ (by rw [va_up_ne _ _ nu2]; exact t2) z6 zi zt zk e1 e2 e3 e4 e5 e6 e7 e8 e9 e10⟩
  · rcases List.mem_append.mp ha with hh | hh
    · exact hA a (List.mem_filter.mp hh).1
    · rw [List.mem_singleton] at hh
      subst hh; exact hAd
  · rcases List.mem_append.mp hq with hh | hh
    · exact Or.inl hh
    · exact Or.inr (List.mem_singleton.mp hh)
end AF
/-- what the making of a folder needs -/
def fY (D : va_G) (cO : ClassId) (A : Nat → Prop) (e0 zA mi : Nat) (U : State) : Prop := aY D cO A e0 zA U ∧ va_Mi "[Ljava/lang/Object;" mi U ∧ va_Dc U
theorem aY.zz {D : va_G} {cO : ClassId} {A : Nat → Prop} {e0 zA b : Nat} {s : State} {H : Heap} {locs : List Loc} (h : aY D cO A e0 zA s) (hS : va_S A s.heap H locs) (hAb : A b) (hAz : ∀ q, zA ≤ q → A q) : va_Z "java/util/ArrayList" "DEFAULTCAPACITY_EMPTY_ELEMENTDATA" "[Ljava/lang/Object;" (.ref e0) (alZ b H.size) s H :=
  (va_Z.kept h.2.2.2.1 hS.2.1).narrow (fun q hh => hh.elim (fun e => by rw [e]; exact hAb) (fun hh => hAz q (Nat.le_trans h.2.2.2.2 (Nat.le_trans hS.1 hh))))
abbrev rmf (f n : Nat) : Room := { frames := f, cells := 4, slots := 40, locals := n }
theorem fY.pre {D : va_G} {cO : ClassId} {A : Nat → Prop} {e0 zA mi v m9 : Nat} {q : Nat → Option Nat} {s : State} {H : Heap} {tys : List (ClassId × FieldType)} {ws : va_W} {av : List Value} (h : fY D cO A e0 zA mi s) (hP : va_P D vwCl ws H) (hK : va_K D vwCl tys s) (hN : NW s) (hq : ∀ j, j < m9 → ∀ y, q j = some y → va_Any "java/lang/Object" s H y) (hV : va_Any "java/lang/Object" s H v) :
    ∀ U : State, U.heap = H → s.WarmedH U.vm → va_Pc av (rdY D tys ws (cvY q m9 mi H.size v)) av.toArray U :=
  fun U hU hW => ⟨rfl, (rd_pre (av := av) hP hK hN U hU hW).2, ⟨⟨va_Mi.moved hW.alike h.2.1, va_Dc.moved hW.alike h.2.2, va_AO.moved hW.alike h.1.2.1, by rw [hU]; exact Nat.le_refl _⟩, anyQ.move hW.alike (by rw [hU]; exact hq)⟩, anyQ.move hW.alike (by rw [hU]; exact fun j _ y hy => by cases hy; exact hV)⟩
