/-! the class's constructor -/
def F0i : Nat → Nat → Int32 := va_up (va_up (fun _ _ => 0) 3 (upd (fun _ => 0) 0 (-1))) 5 (upd (fun _ => 0) 0 1)
theorem cv_A {b z q : Nat} {e : va_E} : va_A [(b, e)] z q ↔ alZ b z q := by
  refine ⟨fun h => ?_, fun h => ?_⟩
  · rcases h with ⟨k, e', h⟩ | h
    · have hm := List.mem_of_getElem? h
      rw [List.mem_singleton] at hm
      exact Or.inl (congrArg Prod.fst hm)
    · exact Or.inr h
  · rcases h with h | h
    · exact Or.inl ⟨0, e, by rw [h]; rfl⟩
    · exact Or.inr h
theorem jz {A0 : Nat → Prop} {D : va_G} {ws wr w1 : va_W} {b : Nat} {e : va_E} {H H1 : Heap} (hP : va_P D vwCl ws H) (hD : va_D A0 ws) (kb : Nat) (hb : ws[kb]? = some (b, e)) (isR : List Nat) (hR : isR.map (fun i => ws[i]?) = wr.map some) (hn : va_nd isR = true) (hdis : kb ∉ isR)
    (hk : ∀ q : Nat, q < H.size → ¬ alZ b H.size q → H1[q]? = H[q]?) (hF : ∀ q, alZ b H.size q → A0 q) (hP1 : va_P D vwCl w1 H1) (hD1 : va_D (alZ b H.size) w1) : va_P D vwCl (wr ++ w1) H1 ∧ va_D A0 (wr ++ w1) :=
  va_join hP hD [kb] isR (wc := [(b, e)]) (by rw [List.map_cons, List.map_nil, hb]; rfl) hR hn (fun i hi hc => hdis (by rw [List.mem_singleton] at hc; rw [← hc]; exact hi)) (fun q h1 h2 => hk q h1 (fun hc => h2 (cv_A.mpr hc))) (fun q h => hF q (cv_A.mp h)) hP1 (hD1.weaken (fun k q _ h => cv_A.mpr h))
theorem va_D.nodup {A : Nat → Prop} {ws : va_W} (hD : va_D A ws) : (ws.map Prod.fst).Nodup := by
  refine List.pairwise_iff_getElem.mpr (fun i j hi hj hij e => ?_)
  have hi' : i < ws.length := by rw [List.length_map] at hi; exact hi
  have hj' : j < ws.length := by rw [List.length_map] at hj; exact hj
  rw [List.getElem_map, List.getElem_map] at e
  have h := hD.1 i j _ _ (List.getElem?_eq_getElem hi') (List.getElem?_eq_getElem hj') e
  omega
theorem fn_ex {α : Type} (d : α) : ∀ ws : List (Nat × α), (ws.map Prod.fst).Nodup → ∃ f : Nat → α, ∀ q, q ∈ ws → f q.1 = q.2 := by
  intro ws
  induction ws with
  | nil => intro _; exact ⟨fun _ => d, fun q hq => absurd hq List.not_mem_nil⟩
  | cons p t ih =>
    intro h
    have h' : (p.1 :: t.map Prod.fst).Nodup := h
    obtain ⟨h1, h2⟩ := List.nodup_cons.mp h'
    obtain ⟨f, hf⟩ := ih h2
    refine ⟨va_up f p.1 p.2, fun q hq => ?_⟩
    rcases List.mem_cons.mp hq with e | hq
    · rw [e]; exact va_up_self _ _ _
    · rw [va_up_ne _ _ (fun e => h1 (by rw [← e]; exact List.mem_map.mpr ⟨q, hq, rfl⟩))]
      exact hf q hq
theorem memb0 (gs : Int32) : ∀ k, memb (fun _ => 0) gs k = 0 := by
  intro k
  induction k with
  | zero => rfl
  | succ k ih =>
    show memb (fun _ => 0) gs k ||| (if hasB gs (nI k) = true then 0 else 0) = 0
    rw [ih, ite_self]; rfl
def adX (a b1 g1 g2 g3 m h v tr ar fo li ke e0 : Nat) : Nat → Nat → Nat := fun g i => if g = 0 then (if i = 0 then a else if i = 1 then b1 else if i = 2 then g1 else if i = 3 then g2 else if i = 4 then g3 else if i = 5 then m else if i = 6 then h else if i = 7 then v else tr) else if g = 1 then fo else if g = 2 then li else if g = 3 then ke else if g = 6 then ar else e0
theorem fin_X4 {D : va_G} {H : Heap} {cI cO : ClassId} {A : Nat → Prop} {a e0 b1 g1 g2 g3 m h v fo li ke tr ar : Nat}
    (hP : va_P D vwCl [(a, .inr (5, [.ref b1, .ref tr, .ref m])), (b1, .inr (3, [.ref g1, .ref g2, .ref g3])), (g1, i0 cI 6), (g2, i0 cI 6), (g3, i0 cI 6), (m, .inr (4, [.ref h, .ref v, .int (-1), .int 0, .int 0, .int 0, .int 0])), (h, i0 cI 8), (v, i0 cI 8), (fo, .inr (2, [.null, .ref li, .ref ke, .int 0, .int 1, .int 0, .int 0])), (li, .inr (0, [.int 0, .ref e0, .int 0])), (ke, i0 cI 8), (tr, .inr (0, [.int (0 + 1), .ref ar, .int (nI (0 + 1))])), (ar, refs cO 10 (va_up (fun _ => none) 0 (some fo)))] H)
    (hD : va_D A [(a, .inr (5, [.ref b1, .ref tr, .ref m])), (b1, .inr (3, [.ref g1, .ref g2, .ref g3])), (g1, i0 cI 6), (g2, i0 cI 6), (g3, i0 cI 6), (m, .inr (4, [.ref h, .ref v, .int (-1), .int 0, .int 0, .int 0, .int 0])), (h, i0 cI 8), (v, i0 cI 8), (fo, .inr (2, [.null, .ref li, .ref ke, .int 0, .int 1, .int 0, .int 0])), (li, .inr (0, [.int 0, .ref e0, .int 0])), (ke, i0 cI 8), (tr, .inr (0, [.int (0 + 1), .ref ar, .int (nI (0 + 1))])), (ar, refs cO 10 (va_up (fun _ => none) 0 (some fo)))]) (t : State) (ht : t.heap = H) :
    PX D cI cO A a e0 F0i (fun _ => 0) (fun _ => 0) (fun _ => 0) 1 (fun _ => 0) (fun _ => 0) (-1) 0 0 0 0 t := by
  have hnd := hD.nodup
  generalize hws : ([(a, .inr (5, [.ref b1, .ref tr, .ref m])), (b1, .inr (3, [.ref g1, .ref g2, .ref g3])), (g1, i0 cI 6), (g2, i0 cI 6), (g3, i0 cI 6), (m, .inr (4, [.ref h, .ref v, .int (-1), .int 0, .int 0, .int 0, .int 0])), (h, i0 cI 8), (v, i0 cI 8), (fo, .inr (2, [.null, .ref li, .ref ke, .int 0, .int 1, .int 0, .int 0])), (li, .inr (0, [.int 0, .ref e0, .int 0])), (ke, i0 cI 8), (tr, .inr (0, [.int (0 + 1), .ref ar, .int (nI (0 + 1))])), (ar, refs cO 10 (va_up (fun _ => none) 0 (some fo)))] : va_W) = ws at hP hD hnd
  obtain ⟨f, hf⟩ := fn_ex (.inr (0, [])) ws hnd
  have hm : ws.map Prod.fst = [a, b1, g1, g2, g3, m, h, v, fo, li, ke, tr, ar] := by rw [← hws]; rfl
  obtain ⟨tg, htg⟩ := fn_ex 0 [(a, 0), (b1, 1), (g1, 2), (g2, 3), (g3, 4), (m, 5), (h, 6), (v, 7), (fo, 100), (li, 200), (ke, 300), (tr, 8), (ar, 9)] (by rw [hm] at hnd; exact hnd)
  have hs : ∀ (k : Nat) (x : Nat) (e : va_E), ws[k]? = some (x, e) → Hs (ws.map Prod.fst) f x e := fun k x e hk => ⟨List.mem_map.mpr ⟨(x, e), List.mem_of_getElem? hk, rfl⟩, hf (x, e) (List.mem_of_getElem? hk)⟩
  have hg : ∀ (k : Nat) (x y : Nat), [(a, 0), (b1, 1), (g1, 2), (g2, 3), (g3, 4), (m, 5), (h, 6), (v, 7), (fo, 100), (li, 200), (ke, 300), (tr, 8), (ar, 9)][k]? = some (x, y) → tg x = y := fun k x y hk => htg (x, y) (List.mem_of_getElem? hk)
  subst hws
  refine ⟨_, tg, adX a b1 g1 g2 g3 m h v tr ar fo li ke e0, upd (fun _ => 0) 0 (0 + 1), hnd, fun x hx => ?_, rfl, rfl, f, ?_, ?_⟩
  · obtain ⟨q, hq, e⟩ := List.mem_map.mp hx
    obtain ⟨k, hk⟩ := List.getElem?_of_mem hq
    rw [← e]; exact hD.2 k q hk
  · rw [ht]
    refine va_P_in hP (fun q hq => ?_)
    obtain ⟨x, hx, e⟩ := List.mem_map.mp hq
    obtain ⟨y, hy, e2⟩ := List.mem_map.mp hx
    rw [← e, ← e2, hf y hy]; exact hy
  · refine ⟨⟨hs 0 _ _ rfl, hs 1 _ _ rfl, hs 2 _ _ rfl, hs 3 _ _ rfl, fun _ => 0, hs 4 _ _ rfl, fun k hk => ?_⟩, ⟨hs 5 _ _ rfl, hs 6 _ _ rfl, hs 7 _ _ rfl⟩, ⟨hs 11 _ _ rfl, 10, va_up (fun _ => none) 0 (some fo), hs 12 _ _ rfl, by decide, Or.inl rfl, fun i hi => ?_⟩, fun i hi => ?_, fun k hk => ?_, hg 12 _ _ rfl, fun i hi => ?_⟩
    · show 0 = memb (fun _ => 0) _ 6
      exact (memb0 _ _).symm
    · rw [show i = 0 by omega]; rfl
    · obtain rfl : i = 0 := by omega
      exact ⟨hs 8 _ _ rfl, ⟨fun _ => 0, hs 10 _ _ rfl, fun p hp => rfl⟩, hs 9 _ _ rfl, Or.inl ⟨rfl, rfl⟩, fun j hj => absurd hj (Nat.not_lt_zero _)⟩
    · rcases (show k = 0 ∨ k = 1 ∨ k = 2 ∨ k = 3 ∨ k = 4 ∨ k = 5 ∨ k = 6 ∨ k = 7 ∨ k = 8 by omega) with rfl | rfl | rfl | rfl | rfl | rfl | rfl | rfl | rfl
      · exact hg 0 _ _ rfl
      · exact hg 1 _ _ rfl
      · exact hg 2 _ _ rfl
      · exact hg 3 _ _ rfl
      · exact hg 4 _ _ rfl
      · exact hg 5 _ _ rfl
      · exact hg 6 _ _ rfl
      · exact hg 7 _ _ rfl
      · exact hg 11 _ _ rfl
    · obtain rfl : i = 0 := by omega
      exact ⟨hg 8 _ _ rfl, hg 9 _ _ rfl, hg 10 _ _ rfl⟩
