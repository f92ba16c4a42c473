section
-- ===== PART A: goes FIRST, ahead of the names: the tables' words, and 'selects' of the private methods out of them =====
/-- a private method of a class that the tables say can be made, by its rows of tables_1 -/
def lw_okq (q : MethodName × Nat) : Prop := (q.1.cls ≠ "java/lang/invoke/MethodHandle" ∧ q.1.cls ≠ "java/lang/invoke/VarHandle") ∧ Cond.instantiable q.1.cls q.2 ∈ tables_1 ∧ Cond.privateMethod q.1 ∈ tables_1 ∧ Cond.instanceMethod q.1 ∈ tables_1
theorem lw_p0 : lw_okq (⟨"java/util/ArrayList", "add", "(Ljava/lang/Object;[Ljava/lang/Object;I)V"⟩, 3) := ⟨⟨by decide +kernel, by decide +kernel⟩, List.mem_of_getElem? (i := 49) (by decide +kernel), List.mem_of_getElem? (i := 150) (by decide +kernel), List.mem_of_getElem? (i := 151) (by decide +kernel)⟩
theorem lw_p1 : lw_okq (⟨"java/util/ArrayList", "grow", "()[Ljava/lang/Object;"⟩, 3) := ⟨⟨by decide +kernel, by decide +kernel⟩, List.mem_of_getElem? (i := 49) (by decide +kernel), List.mem_of_getElem? (i := 154) (by decide +kernel), List.mem_of_getElem? (i := 155) (by decide +kernel)⟩
theorem lw_p2 : lw_okq (⟨"java/util/ArrayList", "grow", "(I)[Ljava/lang/Object;"⟩, 3) := ⟨⟨by decide +kernel, by decide +kernel⟩, List.mem_of_getElem? (i := 49) (by decide +kernel), List.mem_of_getElem? (i := 158) (by decide +kernel), List.mem_of_getElem? (i := 159) (by decide +kernel)⟩
theorem lw_p3 : lw_okq (⟨"ShareMover", "mappingOf", "(LShareMover$Folder;)LShareMover$Mapping;"⟩, 3) := ⟨⟨by decide +kernel, by decide +kernel⟩, List.mem_of_getElem? (i := 24) (by decide +kernel), List.mem_of_getElem? (i := 239) (by decide +kernel), List.mem_of_getElem? (i := 240) (by decide +kernel)⟩
theorem lw_p4 : lw_okq (⟨"ShareMover", "findHeld", "(LShareMover$Folder;)V"⟩, 3) := ⟨⟨by decide +kernel, by decide +kernel⟩, List.mem_of_getElem? (i := 24) (by decide +kernel), List.mem_of_getElem? (i := 243) (by decide +kernel), List.mem_of_getElem? (i := 244) (by decide +kernel)⟩
theorem lw_p5 : lw_okq (⟨"ShareMover", "rightsByEntries", "(ILShareMover$Folder;)I"⟩, 3) := ⟨⟨by decide +kernel, by decide +kernel⟩, List.mem_of_getElem? (i := 24) (by decide +kernel), List.mem_of_getElem? (i := 247) (by decide +kernel), List.mem_of_getElem? (i := 248) (by decide +kernel)⟩
theorem lw_p6 : lw_okq (⟨"ShareMover", "isFor", "(LShareMover$Entry;I)Z"⟩, 3) := ⟨⟨by decide +kernel, by decide +kernel⟩, List.mem_of_getElem? (i := 24) (by decide +kernel), List.mem_of_getElem? (i := 256) (by decide +kernel), List.mem_of_getElem? (i := 257) (by decide +kernel)⟩
theorem lw_p7 : lw_okq (⟨"ShareMover", "mapWith", "(LShareMover$Folder;I)V"⟩, 3) := ⟨⟨by decide +kernel, by decide +kernel⟩, List.mem_of_getElem? (i := 24) (by decide +kernel), List.mem_of_getElem? (i := 271) (by decide +kernel), List.mem_of_getElem? (i := 272) (by decide +kernel)⟩
theorem lw_p8 : lw_okq (⟨"ShareMover$Mapping", "findBits", "(II)V"⟩, 7) := ⟨⟨by decide +kernel, by decide +kernel⟩, List.mem_of_getElem? (i := 75) (by decide +kernel), List.mem_of_getElem? (i := 279) (by decide +kernel), List.mem_of_getElem? (i := 280) (by decide +kernel)⟩
theorem lw_p9 : lw_okq (⟨"ShareMover$Mapping", "sharedBy", "(I)I"⟩, 7) := ⟨⟨by decide +kernel, by decide +kernel⟩, List.mem_of_getElem? (i := 75) (by decide +kernel), List.mem_of_getElem? (i := 283) (by decide +kernel), List.mem_of_getElem? (i := 284) (by decide +kernel)⟩
theorem lw_p10 : lw_okq (⟨"ShareMover$Mapping", "lossOf", "(I)I"⟩, 7) := ⟨⟨by decide +kernel, by decide +kernel⟩, List.mem_of_getElem? (i := 75) (by decide +kernel), List.mem_of_getElem? (i := 288) (by decide +kernel), List.mem_of_getElem? (i := 289) (by decide +kernel)⟩
theorem lw_p11 : lw_okq (⟨"ShareMover$Mapping", "greatestLoser", "()I"⟩, 7) := ⟨⟨by decide +kernel, by decide +kernel⟩, List.mem_of_getElem? (i := 75) (by decide +kernel), List.mem_of_getElem? (i := 298) (by decide +kernel), List.mem_of_getElem? (i := 299) (by decide +kernel)⟩
theorem lw_p12 : lw_okq (⟨"java/lang/Throwable", "fillInStackTrace", "(I)Ljava/lang/Throwable;"⟩, 6) := ⟨⟨by decide +kernel, by decide +kernel⟩, List.mem_of_getElem? (i := 360) (by decide +kernel), List.mem_of_getElem? (i := 358) (by decide +kernel), List.mem_of_getElem? (i := 359) (by decide +kernel)⟩
theorem lw_p13 : lw_okq (⟨"ShareMover$Groups", "findEveryone", "()V"⟩, 3) := ⟨⟨by decide +kernel, by decide +kernel⟩, List.mem_of_getElem? (i := 32) (by decide +kernel), List.mem_of_getElem? (i := 399) (by decide +kernel), List.mem_of_getElem? (i := 400) (by decide +kernel)⟩
theorem lw_p14 : lw_okq (⟨"ShareMover", "folderAt", "(I)LShareMover$Folder;"⟩, 3) := ⟨⟨by decide +kernel, by decide +kernel⟩, List.mem_of_getElem? (i := 24) (by decide +kernel), List.mem_of_getElem? (i := 450) (by decide +kernel), List.mem_of_getElem? (i := 451) (by decide +kernel)⟩
theorem lw_p15 : lw_okq (⟨"java/util/ArrayList", "fastRemove", "([Ljava/lang/Object;I)V"⟩, 3) := ⟨⟨by decide +kernel, by decide +kernel⟩, List.mem_of_getElem? (i := 49) (by decide +kernel), List.mem_of_getElem? (i := 529) (by decide +kernel), List.mem_of_getElem? (i := 530) (by decide +kernel)⟩
def lw_privs_1 : List (MethodName × Nat) := [(⟨"java/util/ArrayList", "add", "(Ljava/lang/Object;[Ljava/lang/Object;I)V"⟩, 3), (⟨"java/util/ArrayList", "grow", "()[Ljava/lang/Object;"⟩, 3), (⟨"java/util/ArrayList", "grow", "(I)[Ljava/lang/Object;"⟩, 3), (⟨"ShareMover", "mappingOf", "(LShareMover$Folder;)LShareMover$Mapping;"⟩, 3), (⟨"ShareMover", "findHeld", "(LShareMover$Folder;)V"⟩, 3), (⟨"ShareMover", "rightsByEntries", "(ILShareMover$Folder;)I"⟩, 3), (⟨"ShareMover", "isFor", "(LShareMover$Entry;I)Z"⟩, 3), (⟨"ShareMover", "mapWith", "(LShareMover$Folder;I)V"⟩, 3), (⟨"ShareMover$Mapping", "findBits", "(II)V"⟩, 7), (⟨"ShareMover$Mapping", "sharedBy", "(I)I"⟩, 7), (⟨"ShareMover$Mapping", "lossOf", "(I)I"⟩, 7), (⟨"ShareMover$Mapping", "greatestLoser", "()I"⟩, 7), (⟨"java/lang/Throwable", "fillInStackTrace", "(I)Ljava/lang/Throwable;"⟩, 6), (⟨"ShareMover$Groups", "findEveryone", "()V"⟩, 3), (⟨"ShareMover", "folderAt", "(I)LShareMover$Folder;"⟩, 3), (⟨"java/util/ArrayList", "fastRemove", "([Ljava/lang/Object;I)V"⟩, 3)]
theorem lw_r1 : ∀ q ∈ lw_privs_1, lw_okq q := List.forall_mem_cons.mpr ⟨lw_p0, List.forall_mem_cons.mpr ⟨lw_p1, List.forall_mem_cons.mpr ⟨lw_p2, List.forall_mem_cons.mpr ⟨lw_p3, List.forall_mem_cons.mpr ⟨lw_p4, List.forall_mem_cons.mpr ⟨lw_p5, List.forall_mem_cons.mpr ⟨lw_p6, List.forall_mem_cons.mpr ⟨lw_p7, List.forall_mem_cons.mpr ⟨lw_p8, List.forall_mem_cons.mpr ⟨lw_p9, List.forall_mem_cons.mpr ⟨lw_p10, List.forall_mem_cons.mpr ⟨lw_p11, List.forall_mem_cons.mpr ⟨lw_p12, List.forall_mem_cons.mpr ⟨lw_p13, List.forall_mem_cons.mpr ⟨lw_p14, List.forall_mem_cons.mpr ⟨lw_p15, fun _ h => absurd h List.not_mem_nil⟩⟩⟩⟩⟩⟩⟩⟩⟩⟩⟩⟩⟩⟩⟩⟩
theorem lw_p16 : lw_okq (⟨"ShareMover", "rightsByOverruling", "(ILShareMover$Folder;)I"⟩, 3) := ⟨⟨by decide +kernel, by decide +kernel⟩, List.mem_of_getElem? (i := 24) (by decide +kernel), List.mem_of_getElem? (i := 548) (by decide +kernel), List.mem_of_getElem? (i := 549) (by decide +kernel)⟩
theorem lw_p17 : lw_okq (⟨"ShareMover", "currentRights", "(ILShareMover$Folder;)I"⟩, 3) := ⟨⟨by decide +kernel, by decide +kernel⟩, List.mem_of_getElem? (i := 24) (by decide +kernel), List.mem_of_getElem? (i := 626) (by decide +kernel), List.mem_of_getElem? (i := 627) (by decide +kernel)⟩
theorem lw_p18 : lw_okq (⟨"ShareMoverModel", "isFine", "(I)Z"⟩, 20) := ⟨⟨by decide +kernel, by decide +kernel⟩, List.mem_of_getElem? (i := 637) (by decide +kernel), List.mem_of_getElem? (i := 722) (by decide +kernel), List.mem_of_getElem? (i := 723) (by decide +kernel)⟩
theorem lw_p19 : lw_okq (⟨"ShareMoverModel", "groupsIn", "(I)I"⟩, 20) := ⟨⟨by decide +kernel, by decide +kernel⟩, List.mem_of_getElem? (i := 637) (by decide +kernel), List.mem_of_getElem? (i := 733) (by decide +kernel), List.mem_of_getElem? (i := 734) (by decide +kernel)⟩
theorem lw_p20 : lw_okq (⟨"ShareMoverModel", "membersOf", "(I)I"⟩, 20) := ⟨⟨by decide +kernel, by decide +kernel⟩, List.mem_of_getElem? (i := 637) (by decide +kernel), List.mem_of_getElem? (i := 741) (by decide +kernel), List.mem_of_getElem? (i := 742) (by decide +kernel)⟩
theorem lw_p21 : lw_okq (⟨"ShareMoverModel", "isFolder", "(I)Z"⟩, 20) := ⟨⟨by decide +kernel, by decide +kernel⟩, List.mem_of_getElem? (i := 637) (by decide +kernel), List.mem_of_getElem? (i := 749) (by decide +kernel), List.mem_of_getElem? (i := 750) (by decide +kernel)⟩
theorem lw_p22 : lw_okq (⟨"ShareMoverModel", "rightsOf", "(II)I"⟩, 20) := ⟨⟨by decide +kernel, by decide +kernel⟩, List.mem_of_getElem? (i := 637) (by decide +kernel), List.mem_of_getElem? (i := 777) (by decide +kernel), List.mem_of_getElem? (i := 778) (by decide +kernel)⟩
theorem lw_p23 : lw_okq (⟨"ShareMoverModel", "isFor", "(II)Z"⟩, 20) := ⟨⟨by decide +kernel, by decide +kernel⟩, List.mem_of_getElem? (i := 637) (by decide +kernel), List.mem_of_getElem? (i := 781) (by decide +kernel), List.mem_of_getElem? (i := 782) (by decide +kernel)⟩
theorem lw_p24 : lw_okq (⟨"ShareMoverModel", "mapsBest", "(I)I"⟩, 20) := ⟨⟨by decide +kernel, by decide +kernel⟩, List.mem_of_getElem? (i := 637) (by decide +kernel), List.mem_of_getElem? (i := 794) (by decide +kernel), List.mem_of_getElem? (i := 795) (by decide +kernel)⟩
theorem lw_p25 : lw_okq (⟨"ShareMoverModel", "maps", "(II)I"⟩, 20) := ⟨⟨by decide +kernel, by decide +kernel⟩, List.mem_of_getElem? (i := 637) (by decide +kernel), List.mem_of_getElem? (i := 798) (by decide +kernel), List.mem_of_getElem? (i := 799) (by decide +kernel)⟩
theorem lw_p26 : lw_okq (⟨"ShareMoverModel", "fits", "(II)I"⟩, 20) := ⟨⟨by decide +kernel, by decide +kernel⟩, List.mem_of_getElem? (i := 637) (by decide +kernel), List.mem_of_getElem? (i := 802) (by decide +kernel), List.mem_of_getElem? (i := 803) (by decide +kernel)⟩
theorem lw_p27 : lw_okq (⟨"ShareMoverModel", "common", "(I)I"⟩, 20) := ⟨⟨by decide +kernel, by decide +kernel⟩, List.mem_of_getElem? (i := 637) (by decide +kernel), List.mem_of_getElem? (i := 806) (by decide +kernel), List.mem_of_getElem? (i := 807) (by decide +kernel)⟩
theorem lw_p28 : lw_okq (⟨"ShareMoverModel", "now", "(II)I"⟩, 20) := ⟨⟨by decide +kernel, by decide +kernel⟩, List.mem_of_getElem? (i := 637) (by decide +kernel), List.mem_of_getElem? (i := 849) (by decide +kernel), List.mem_of_getElem? (i := 850) (by decide +kernel)⟩
def lw_privs_2 : List (MethodName × Nat) := [(⟨"ShareMover", "rightsByOverruling", "(ILShareMover$Folder;)I"⟩, 3), (⟨"ShareMover", "currentRights", "(ILShareMover$Folder;)I"⟩, 3), (⟨"ShareMoverModel", "isFine", "(I)Z"⟩, 20), (⟨"ShareMoverModel", "groupsIn", "(I)I"⟩, 20), (⟨"ShareMoverModel", "membersOf", "(I)I"⟩, 20), (⟨"ShareMoverModel", "isFolder", "(I)Z"⟩, 20), (⟨"ShareMoverModel", "rightsOf", "(II)I"⟩, 20), (⟨"ShareMoverModel", "isFor", "(II)Z"⟩, 20), (⟨"ShareMoverModel", "mapsBest", "(I)I"⟩, 20), (⟨"ShareMoverModel", "maps", "(II)I"⟩, 20), (⟨"ShareMoverModel", "fits", "(II)I"⟩, 20), (⟨"ShareMoverModel", "common", "(I)I"⟩, 20), (⟨"ShareMoverModel", "now", "(II)I"⟩, 20)]
theorem lw_r2 : ∀ q ∈ lw_privs_2, lw_okq q := List.forall_mem_cons.mpr ⟨lw_p16, List.forall_mem_cons.mpr ⟨lw_p17, List.forall_mem_cons.mpr ⟨lw_p18, List.forall_mem_cons.mpr ⟨lw_p19, List.forall_mem_cons.mpr ⟨lw_p20, List.forall_mem_cons.mpr ⟨lw_p21, List.forall_mem_cons.mpr ⟨lw_p22, List.forall_mem_cons.mpr ⟨lw_p23, List.forall_mem_cons.mpr ⟨lw_p24, List.forall_mem_cons.mpr ⟨lw_p25, List.forall_mem_cons.mpr ⟨lw_p26, List.forall_mem_cons.mpr ⟨lw_p27, List.forall_mem_cons.mpr ⟨lw_p28, fun _ h => absurd h List.not_mem_nil⟩⟩⟩⟩⟩⟩⟩⟩⟩⟩⟩⟩⟩
def lw_privs : List (MethodName × Nat) := lw_privs_1 ++ (lw_privs_2)
def lw_tbl : List Cond := k2_sels lw_privs ++ tables_1
theorem lw_privs_ok : ∀ q ∈ lw_privs, lw_okq q := by
  show ∀ q ∈ lw_privs_1 ++ (lw_privs_2), lw_okq q
  exact List.forall_mem_append.mpr ⟨lw_r1, lw_r2⟩
end
section
/-! ===== BEGIN words of one list among another's, by their places ===== -/
theorem goodIn_r {big : List Cond} (ws : List Cond) (ps : List Nat) (hp : ws = ps.filterMap (fun i => big[i]?)) (h : ws.all goodWord = true) : GoodIn big ws := by
  intro w hw
  have h1 := List.all_eq_true.mp h w hw
  rw [hp] at hw
  obtain ⟨i, -, hi⟩ := List.mem_filterMap.mp hw
  have hm : w ∈ big := by first | exact List.mem_of_getElem? hi | exact List.getElem?_mem hi
  exact ⟨hm, good_of_word h1⟩
theorem goodIn_app {big a b : List Cond} (ha : GoodIn big a) (hb : GoodIn big b) : GoodIn big (a ++ b) := fun w h => (List.mem_append.mp h).elim (ha w) (hb w)
theorem goodIn_ca {big a b : List Cond} {c : Cond} (ha : GoodIn big (c :: a)) (hb : GoodIn big b) : GoodIn big (c :: (a ++ b)) := fun w h => (List.mem_cons.mp h).elim (fun e => ha w (List.mem_cons.mpr (Or.inl e))) (fun h => (List.mem_append.mp h).elim (fun h => ha w (List.mem_cons.mpr (Or.inr h))) (hb w))
theorem goodIn_sub {big ws : List Cond} (hm : ∀ w ∈ ws, w ∈ big) (h : ws.all goodWord = true) : GoodIn big ws := fun w hw => ⟨hm w hw, good_of_word (List.all_eq_true.mp h w hw)⟩
/-! ===== END ===== -/

/-! ===== BEGIN exceptions that leave a method, and their catching by the caller (launches without stack traces) ===== -/
section VXA
/-! The laws vx_back, vx_callV, vx_callS, vx_callSW, vx_throw0, vx_throwS follow proofs of the library, with one case more: JvmDerived/Free/Laws.lean (Back.of_free), Shelf42/LK1.lean (callV, callS), Shelf/KitTraced.lean (throwNew0V, throwNewS). -/
/-- where a method has thrown q: the class by its name, the cell, what was written, the world -/
def vx_T (XC : String → State → State → Prop) (st : State) (q : Addr) (t : State) (mc ms : Nat) (free : Addr → Prop) : Prop :=
  ∃ (E : String) (ce : Cell) (L : List Loc), XC E st t ∧ t.heap[q]? = some ce ∧ ce.vm = .none ∧ st.vm.findClass E = some ce.cls ∧ st.WarmedH t.vm ∧ st.sameButNew ({ t with vm := st.vm } : State) L mc ms ∧ ∀ z ∈ L, free z.base
def vx_Q (Qc : Array Value → State → Outcome → State → Prop) (XC : String → State → State → Prop) (mc ms : Nat) (free : Addr → Prop) : Array Value → State → Outcome → State → Prop := fun a st o t =>
  (Qc a st o t ∧ ∃ L, FrameEnd st o t L mc ms ∧ ∀ q ∈ L, free q.base) ∨ ∃ q, o = .threw q ∧ vx_T XC st q t mc ms free
/-- a callee that returns or throws -/
def vx_Met (l : Launch) (y : MethodName) (ws : List Cond) (rm : Room) (Pc : Array Value → State → Prop) (Qc : Array Value → State → Outcome → State → Prop) (XC : String → State → State → Prop) (mc ms : Nat) (free : Addr → Prop) : Prop :=
  MetFree l y (headSpec ws rm) Pc (fun _ _ _ _ _ => True) (vx_Q Qc XC mc ms free)
def vx_Post (XC : String → State → State → Prop) (mc ms : Nat) (free : Addr → Prop) : Pt → Array Value → Addr → Pt → Prop := fun A a q B =>
  ∃ (g : JFrame) (mk : MethodId) (t : State) (L : List Loc) (E : String) (ce : Cell), B.U.heap = t.heap ∧ B.U.vm = t.vm ∧ XC E (A.U.calling g mk a) t ∧ t.heap[q]? = some ce ∧ ce.vm = .none ∧ A.U.vm.findClass E = some ce.cls ∧ B.locs = A.locs ++ L ∧ (∀ z ∈ L, free z.base) ∧ B.cells = A.cells + mc ∧ B.slots = A.slots + ms
def vx_Back (l : Launch) (R : Room) (p : Program) (e : Env) (below : List Frame) (s : State) (sargs : Array Value) (y : MethodName) (len W9 : Nat)
    (Pre : Pt → Array Value → Prop) (Post : Pt → Array Value → Option Value → Pt → Prop) (PostX : Pt → Array Value → Addr → Pt → Prop) : Prop :=
  ∀ (m : MethodId) (meth : Method) (c : Code) (A : Pt) (g : JFrame) (ig : Instr) (mk : MethodId) (a : Array Value),
    Stand p l e R s m sargs below meth c A.U A.locs A.cells A.slots → g.method = m → g.locals.size = c.maxLocals → decode c.code g.pc = .ok (ig, len) →
    2 * g.monitorRoom + (g.stack.map fun v => v.category).sum ≤ W9 → A.U.methodNamed? y = some mk → Pre A a →
    (∃ (v : Option Value) (B : Pt), Stand p l e R s m sargs below meth c B.U B.locs B.cells B.slots ∧ Post A a v B ∧
      Steps p.tables e below (doInvoke e (A.U.setTop g) [] mk a).1 (B.U.setTop { g with pc := g.pc + len, stack := v.toList ++ g.stack })) ∨
    (∃ (q : Addr) (B : Pt), Stand p l e R s m sargs below meth c B.U B.locs B.cells B.slots ∧ PostX A a q B ∧
      Steps p.tables e below (doInvoke e (A.U.setTop g) [] mk a).1 ((B.U.setTop g).pushFrame (.throwing q)))
section Payer
variable {l : Launch} {R : Room} {p : Program} {e : Env} {below : List Frame} {s : State} {sargs : Array Value} {y : MethodName} {len W9 : Nat}
theorem vx_back {ws : List Cond} {rm : Room} {Pc : Array Value → State → Prop} {Qc : Array Value → State → Outcome → State → Prop} {XC : String → State → State → Prop} {mc ms : Nat} {free : Addr → Prop} {bytes : ByteArray} {maxL : Nat} {ret : Option FieldType}
    (hM : vx_Met l y ws rm Pc Qc XC mc ms free) (hblind : FrameBlind Pc) (hrc : rm.cells = mc) (hrs : rm.slots = ms)
    (hframes : rm.frames + 1 ≤ R.frames) (hlocals : W9 + (maxL + 11) + rm.locals ≤ R.locals)
    (hws : ∀ w ∈ ws, ∀ a' U, s.WarmedH U.vm → w.before a' U = true) (hcode : Cond.code y bytes maxL ret ∈ ws) (hinit : ∀ a' U, s.WarmedH U.vm → (Cond.initialized y.cls).before a' U = true) :
    vx_Back l R p e below s sargs y len W9 (PreOf R mc ms Pc) (PostOf Qc mc ms free) (vx_Post XC mc ms free) := by
  intro m meth c A g ig mk a X hg hsize hdg hW hn hp
  have h1 : (headSpec ws rm).pre.before a A.U = true := atoms_intro fun w hw => hws w hw _ _ X.warmed
  have h2 : (Cond.code y bytes maxL ret).before a A.U = true := hws _ hcode _ _ X.warmed
  have h3 : (Cond.initialized y.cls).before a A.U = true := hinit _ _ X.warmed
  have h4 : A.cells + (headSpec ws rm).room.cells ≤ R.cells := by rw [show (headSpec ws rm).room.cells = mc from hrc]; exact hp.1
  have h5 : A.slots + (headSpec ws rm).room.slots ≤ R.slots := by rw [show (headSpec ws rm).room.slots = ms from hrs]; exact hp.2.1
  have hPc : Pc a (A.U.calling g mk a) := hblind _ _ _ _ hp.2.2
  obtain ⟨U, Ls, c0, s0⟩ := A
  dsimp only [Pt.U, Pt.locs, Pt.cells, Pt.slots] at h1 h2 h3 h4 h5 X hn hPc ⊢
  obtain ⟨methY, cY, hmY, hcY, -, hlY, -, -, -, -⟩ := Cond.code_spec hn h2
  obtain ⟨kY, hkY, -⟩ := className_of_methodNamed hn
  have hinitY : kY.init = .initialized := Cond.initialized_spec (findClass_of_methodNamed hn) hkY h3
  have h : At U g.method c below := by rw [hg]; exact X.here
  have hlocals9 : W9 + (maxL + 11) + (headSpec ws rm).room.locals ≤ R.locals := hlocals
  have happ : (headSpec ws rm).appliesLoose y e.platform (U.calling g mk a) = true :=
    Spec.appliesLoose_calling (g := g) h hdg hn hkY hinitY
      (X.room_calling (g := g) (R' := (headSpec ws rm).room) hsize hmY hcY hframes (by rw [hlY]; omega) h4 h5) h1
  obtain ⟨mid, hmid⟩ := h.above
  have hfr : (U.setTop g).frames = (.java g :: mid) ++ below := by rw [State.frames_setTop' g h.top, hmid]; rfl
  obtain ⟨o, s₂, hsteps, -, hend, hq⟩ := Steps.callFree hM p X.admits X.cas X.clock (acts := []) hfr happ hPc trivial
  have hq' : vx_Q Qc XC mc ms free a (U.calling g mk a) o s₂ := hq
  rw [State.frames_setTop' g h.top] at hend
  obtain ⟨g₀, hg0⟩ := Option.isSome_iff_exists.mp h.top
  obtain ⟨r, hr⟩ := State.topJava?_eq_some.mp hg0
  have hr' : (({ U with heap := s₂.heap, slotsUsed := s₂.slotsUsed } : State).setVm s₂.vm).frames = .java g₀ :: r := hr
  rcases hq' with ⟨hqc, L, hfe, hL⟩ | ⟨q, rfl, E, ce, L, hx, hce, hcv, hcl, hW₂, hsm, hL⟩
  · obtain ⟨⟨v, rfl⟩, hW₂, e2, q2, q3, q4, q5, q6⟩ := id hfe
    have e3 : s₂ = ({ (U.calling g mk a).setFrames s₂.frames with heap := s₂.heap, slotsUsed := s₂.slotsUsed } : State).setVm s₂.vm := by
      have : s₂ = ({ s₂ with vm := (U.calling g mk a).vm } : State).setVm s₂.vm := rfl
      rw [e2] at this
      exact this
    obtain ⟨c₂, i₂, len₂, hc₂, hd₂, hf₂⟩ := hend
    have hW' : U.WarmedH s₂.vm := hW₂
    have hcc : c₂ = c := by
      have h1 : s₂.code? g.method = U.code? g.method := by
        rw [State.code?_eq, State.code?_eq, hW'.alike.method?]
      exact Option.some.inj (hc₂.symm.trans (h1.trans h.code))
    subst hcc
    have hlen : len₂ = len := by rw [hdg] at hd₂; cases hd₂; rfl
    subst hlen
    have hs₂ : s₂ = (({ U with heap := s₂.heap, slotsUsed := s₂.slotsUsed } : State).setVm s₂.vm).setTop { g with pc := g.pc + len₂, stack := v.toList ++ g.stack } := by
      refine e3.trans ?_
      rw [hf₂, State.calling_eq h.top, State.setFrames_setFrames, State.setTop_of_frames _ hr', hr]
      rfl
    have hsame : U.sameButNew ({ U with heap := s₂.heap, slotsUsed := s₂.slotsUsed } : State) L mc ms := by
      refine ⟨?_, q2, q3, q4, q5, q6⟩
      obtain ⟨t, ht, -⟩ := State.frames_cons hr
      show ({ U with heap := s₂.heap, slotsUsed := s₂.slotsUsed } : State) = { U.setFrames U.frames with heap := s₂.heap, slotsUsed := s₂.slotsUsed }
      rw [State.setFrames_self ht]
    subst hg
    refine Or.inl ⟨v, ⟨(({ U with heap := s₂.heap, slotsUsed := s₂.slotsUsed } : State).setVm s₂.vm), Ls ++ L, c0 + mc, s0 + ms⟩,
      ⟨X.admits, X.cas, X.clock, X.frames, X.room, X.hears, X.method, X.code, (X.here.setHeapUsed s₂.heap s₂.slotsUsed).setVm hW'.alike, X.tail, State.WarmedH.trans X.warmed hW', X.limits, X.bytes, X.same.trans (hsame.setVm s.vm)⟩,
      ⟨g, mk, s₂, L, rfl, rfl, hqc, rfl, hL, rfl, rfl⟩, ?_⟩
    show Steps p.tables e below _ ((({ U with heap := s₂.heap, slotsUsed := s₂.slotsUsed } : State).setVm s₂.vm).setTop { g with pc := g.pc + len₂, stack := v.toList ++ g.stack })
    rw [← hs₂]
    exact hsteps
  · obtain ⟨e2, q2, q3, q4, q5, q6⟩ := id hsm
    have e3 : s₂ = ({ (U.calling g mk a).setFrames s₂.frames with heap := s₂.heap, slotsUsed := s₂.slotsUsed } : State).setVm s₂.vm := by
      have : s₂ = ({ s₂ with vm := (U.calling g mk a).vm } : State).setVm s₂.vm := rfl
      rw [e2] at this
      exact this
    have hf₂ : s₂.frames = .throwing q :: .java g :: U.frames.tail := hend
    have hW' : U.WarmedH s₂.vm := hW₂
    have hs₂ : s₂ = ((({ U with heap := s₂.heap, slotsUsed := s₂.slotsUsed } : State).setVm s₂.vm).setTop g).pushFrame (.throwing q) := by
      refine e3.trans ?_
      rw [hf₂, State.calling_eq h.top, State.setFrames_setFrames, State.pushFrame, State.frames_setTop _ hr', State.setTop_of_frames _ hr', State.setFrames_setFrames, hr]
      rfl
    have hsame : U.sameButNew ({ U with heap := s₂.heap, slotsUsed := s₂.slotsUsed } : State) L mc ms := by
      refine ⟨?_, q2, q3, q4, q5, q6⟩
      obtain ⟨t, ht, -⟩ := State.frames_cons hr
      show ({ U with heap := s₂.heap, slotsUsed := s₂.slotsUsed } : State) = { U.setFrames U.frames with heap := s₂.heap, slotsUsed := s₂.slotsUsed }
      rw [State.setFrames_self ht]
    subst hg
    refine Or.inr ⟨q, ⟨(({ U with heap := s₂.heap, slotsUsed := s₂.slotsUsed } : State).setVm s₂.vm), Ls ++ L, c0 + mc, s0 + ms⟩,
      ⟨X.admits, X.cas, X.clock, X.frames, X.room, X.hears, X.method, X.code, (X.here.setHeapUsed s₂.heap s₂.slotsUsed).setVm hW'.alike, X.tail, State.WarmedH.trans X.warmed hW', X.limits, X.bytes, X.same.trans (hsame.setVm s.vm)⟩,
      ⟨g, mk, s₂, L, E, ce, rfl, rfl, hx, hce, hcv, hcl, rfl, hL, rfl, rfl⟩, ?_⟩
    show Steps p.tables e below _ (((({ U with heap := s₂.heap, slotsUsed := s₂.slotsUsed } : State).setVm s₂.vm).setTop g).pushFrame (.throwing q))
    rw [← hs₂]
    exact hsteps
end Payer
section Calls
variable {p : Program} {l : Launch} {e : Env} {R : Room} {s : State} {m : MethodId} {args : Array Value} {below : List Frame} {meth : Method} {c : Code} {T : State} {locs : List Loc} {cells slots : Nat}
theorem vx_callV (X : Stand p l e R s m args below meth c T locs cells slots) (hexec : p.tables.exec = Jvm.exec) {own C : String} {index : Nat} {y : MethodName} {bytes : ByteArray} {maxL : Nat} {ret : Option FieldType}
    (hown : s.vm.findClass own = some m.cls) (hlink : (Cond.methodLink own index y).before args s = true) (hinst : (Cond.instanceMethod y).before args s = true) (hsel : (Cond.selects C y y).before args s = true)
    (hcode : (Cond.code y bytes maxL ret).before args s = true) (hy : y.cls ≠ "java/lang/invoke/MethodHandle" ∧ y.cls ≠ "java/lang/invoke/VarHandle")
    {W9 : Nat} {Pre : Pt → Array Value → Prop} {Post : Pt → Array Value → Option Value → Pt → Prop} {PostX : Pt → Array Value → Addr → Pt → Prop} (hK : vx_Back l R p e below s args y 3 W9 Pre Post PostX)
    {b : Addr} {cellB : Cell} (hcell : T.heap[b]? = some cellB) (hobj : cellB.vm.isStatics = false) (hcls : s.vm.findClass C = some cellB.cls)
    {g : JFrame} (hg : g.method = m) (hsize : g.locals.size = c.maxLocals) {argsL rest : List Value} (hlen : ∀ sig, parseMethodDescriptor y.desc = some sig → argsL.length = sig.parameters.length)
    (hstack : g.stack = argsL.reverse ++ .ref b :: rest) (hW : 2 * g.monitorRoom + (rest.map fun v => v.category).sum ≤ W9) (hdg : decode c.code g.pc = .ok (.invokevirtual index, 3))
    (hpre : ∀ vm₁, s.WarmedH vm₁ → Pre ⟨T.setVm vm₁, locs, cells, slots⟩ (Value.ref b :: argsL).toArray) :
    (∃ (v : Option Value) (vm₁ : Vm) (B : Pt), s.WarmedH vm₁ ∧ Stand p l e R s m args below meth c B.U B.locs B.cells B.slots ∧ Post ⟨T.setVm vm₁, locs, cells, slots⟩ (Value.ref b :: argsL).toArray v B ∧
      ∀ target, Steps p.tables e below (B.U.setTop { g with pc := g.pc + 3, stack := v.toList ++ rest }) target → Steps p.tables e below (T.setTop g) target) ∨
    (∃ (q : Addr) (vm₁ : Vm) (B : Pt), s.WarmedH vm₁ ∧ Stand p l e R s m args below meth c B.U B.locs B.cells B.slots ∧ PostX ⟨T.setVm vm₁, locs, cells, slots⟩ (Value.ref b :: argsL).toArray q B ∧
      Steps p.tables e below (T.setTop g) ((B.U.setTop { g with stack := rest }).pushFrame (.throwing q))) := by
  obtain ⟨mk, methM, hnamed, hmethM, hstM, habM⟩ := Cond.instanceMethod_spec hinst
  obtain ⟨methM', cM, hmethM', -, -, -, -, -, -, hsigM⟩ := Cond.code_spec hnamed hcode
  cases hmethM.symm.trans hmethM'
  obtain ⟨c2, r2, m2, q1, q2, q3, q4, kP, hkP, hkPi⟩ := Cond.selects_spec hsel
  cases hcls.symm.trans q1
  cases (State.methodFound?_of_named hnamed hy).symm.trans q2
  cases hnamed.symm.trans q3
  have hselP : selectMethod e.platform s.vm cellB.cls mk = .method mk := by rw [Launch.admits_selectMethod X.admits]; exact q4
  obtain ⟨vm₁, X₁, hstep₁⟩ := X.invokevirtual hexec hown hlink hnamed hmethM hstM hkP hkPi hy (a := b) (cell := cellB) hcell
    (fun z h => by rw [h] at hobj; cases hobj) hselP hmethM habM hkP hkPi (g := g) hg (argsL := argsL) (rest := rest) (hlen _ hsigM) hstack hdg
  rcases hK m meth c ⟨T.setVm vm₁, locs, cells, slots⟩ { g with stack := rest } (.invokevirtual index) mk (Value.ref b :: argsL).toArray X₁ hg hsize hdg hW (X₁.named hnamed) (hpre vm₁ X₁.warmed) with ⟨v, B, X', hpost, hsteps⟩ | ⟨q, B, X', hpost, hsteps⟩
  · exact Or.inl ⟨v, vm₁, B, X₁.warmed, X', hpost, fun target h => hstep₁ _ fun acts => by rw [doInvoke_state]; exact hsteps.trans h⟩
  · exact Or.inr ⟨q, vm₁, B, X₁.warmed, X', hpost, hstep₁ _ fun acts => by rw [doInvoke_state]; exact hsteps⟩
theorem vx_callS (X : Stand p l e R s m args below meth c T locs cells slots) (hexec : p.tables.exec = Jvm.exec) {own : String} {index : Nat} {y : MethodName} {bytes : ByteArray} {maxL : Nat} {ret : Option FieldType}
    (hown : s.vm.findClass own = some m.cls) (hlink : (Cond.methodLink own index y).before args s = true) (hstat : (Cond.static y).before args s = true) (hinit : (Cond.initialized y.cls).before args s = true)
    (hcode : (Cond.code y bytes maxL ret).before args s = true) (hy : y.cls ≠ "java/lang/invoke/MethodHandle" ∧ y.cls ≠ "java/lang/invoke/VarHandle")
    {W9 : Nat} {Pre : Pt → Array Value → Prop} {Post : Pt → Array Value → Option Value → Pt → Prop} {PostX : Pt → Array Value → Addr → Pt → Prop} (hK : vx_Back l R p e below s args y 3 W9 Pre Post PostX)
    {g : JFrame} (hg : g.method = m) (hsize : g.locals.size = c.maxLocals) {argsL rest : List Value} (hlen : ∀ sig, parseMethodDescriptor y.desc = some sig → argsL.length = sig.parameters.length)
    (hstack : g.stack = argsL.reverse ++ rest) (hW : 2 * g.monitorRoom + (rest.map fun v => v.category).sum ≤ W9) (hdg : decode c.code g.pc = .ok (.invokestatic index, 3))
    (hpre : ∀ vm₁, s.WarmedH vm₁ → Pre ⟨T.setVm vm₁, locs, cells, slots⟩ argsL.toArray) :
    (∃ (v : Option Value) (vm₁ : Vm) (B : Pt), s.WarmedH vm₁ ∧ Stand p l e R s m args below meth c B.U B.locs B.cells B.slots ∧ Post ⟨T.setVm vm₁, locs, cells, slots⟩ argsL.toArray v B ∧
      ∀ target, Steps p.tables e below (B.U.setTop { g with pc := g.pc + 3, stack := v.toList ++ rest }) target → Steps p.tables e below (T.setTop g) target) ∨
    (∃ (q : Addr) (vm₁ : Vm) (B : Pt), s.WarmedH vm₁ ∧ Stand p l e R s m args below meth c B.U B.locs B.cells B.slots ∧ PostX ⟨T.setVm vm₁, locs, cells, slots⟩ argsL.toArray q B ∧
      Steps p.tables e below (T.setTop g) ((B.U.setTop { g with stack := rest }).pushFrame (.throwing q))) := by
  obtain ⟨mk, hnamed⟩ := Cond.code_named hcode
  obtain ⟨methM, cM, hmethM, -, -, -, -, -, -, hsigM⟩ := Cond.code_spec hnamed hcode
  have hstatic : methM.isStatic = true := Cond.static_spec hnamed hmethM hstat
  obtain ⟨kP, hkP, -⟩ := className_of_methodNamed hnamed
  have hinitP : kP.init = .initialized := Cond.initialized_spec (findClass_of_methodNamed hnamed) hkP hinit
  obtain ⟨vm₁, X₁, hstep₁⟩ := X.invokestatic hexec hown hlink hnamed hmethM hstatic hkP hinitP hy (g := g) hg (argsL := argsL) (rest := rest) (hlen _ hsigM) hstack hdg
  rcases hK m meth c ⟨T.setVm vm₁, locs, cells, slots⟩ { g with stack := rest } (.invokestatic index) mk argsL.toArray X₁ hg hsize hdg hW (X₁.named hnamed) (hpre vm₁ X₁.warmed) with ⟨v, B, X', hpost, hsteps⟩ | ⟨q, B, X', hpost, hsteps⟩
  · exact Or.inl ⟨v, vm₁, B, X₁.warmed, X', hpost, fun target h => hstep₁ _ fun acts => by rw [doInvoke_state]; exact hsteps.trans h⟩
  · exact Or.inr ⟨q, vm₁, B, X₁.warmed, X', hpost, hstep₁ _ fun acts => by rw [doInvoke_state]; exact hsteps⟩
end Calls
theorem vx_cls {s : State} {T : State} {vm₁ : Vm} {E : String} {k : ClassId} (hW : s.WarmedH vm₁) (h : (T.setVm vm₁).vm.findClass E = some k) : s.vm.findClass E = some k := by
  have h1 : vm₁.findClass E = some k := h
  rw [hW.alike.findClass] at h1
  exact h1
/-- the method's frame g, with q thrown over it -/
def vx_W (p : Program) (l : Launch) (e : Env) (R : Room) (s : State) (m : MethodId) (args : Array Value) (below : List Frame) (meth : Method) (c : Code) (H : Heap) (locs : List Loc) (cells slots : Nat) (Q : State → Prop) (g : JFrame) (q : Addr) : Prop :=
  ∀ T : State, T.heap = H → Stand p l e R s m args below meth c T locs cells slots → ∃ t, Steps p.tables e below ((T.setTop g).pushFrame (.throwing q)) t ∧ Q t
def vx_Run (p : Program) (l : Launch) (e : Env) (R : Room) (s : State) (m : MethodId) (args : Array Value) (below : List Frame) (meth : Method) (c : Code) (H : Heap) (locs : List Loc) (cells slots mc ms : Nat) (g : JFrame) (rest : List Value) (Qa : State → Outcome → State → Prop) (XC : String → State → State → Prop) (free : Addr → Prop) : Prop :=
  ∀ T : State, T.heap = H → Stand p l e R s m args below meth c T locs cells slots →
    (∃ (v : Option Value) (st₀ t T' : State) (L : List Loc), st₀.heap = H ∧ Stand p l e R s m args below meth c T' (locs ++ L) (cells + mc) (slots + ms) ∧ (∀ q ∈ L, free q.base) ∧ T'.heap = t.heap ∧ T'.vm = t.vm ∧ Qa st₀ (.returned v) t ∧
      Goes p e below T g T' { g with pc := g.pc + 3, stack := v.toList ++ rest }) ∨
    (∃ (q : Addr) (st₀ t T' : State) (L : List Loc) (E : String) (ce : Cell), st₀.heap = H ∧ Stand p l e R s m args below meth c T' (locs ++ L) (cells + mc) (slots + ms) ∧ (∀ z ∈ L, free z.base) ∧ T'.heap = t.heap ∧ T'.vm = t.vm ∧ XC E st₀ t ∧ t.heap[q]? = some ce ∧ ce.vm = .none ∧ s.vm.findClass E = some ce.cls ∧
      Steps p.tables e below (T.setTop g) ((T'.setTop { g with stack := rest }).pushFrame (.throwing q)))
def vx_X {S : Type} (px : S → Prop) (B : String → S → State → Prop) (A : Nat → Prop) : String → State → State → Prop := fun E st t => ∃ u : S, px u ∧ B E u t ∧ va_F A st t
section Runs
variable {p : Program} {l : Launch} {e : Env} {R : Room} {s : State} {m : MethodId} {args : Array Value} {below : List Frame} {meth : Method} {c : Code} {H : Heap} {locs : List Loc} {cells slots : Nat}
variable {y : MethodName} {bytes cc : ByteArray} {maxL nL mc ms n index : Nat} {ret : Option FieldType} {ws : List Cond} {rm : Room} {Pc : Array Value → State → Prop} {Qc : Array Value → State → Outcome → State → Prop} {XC : String → State → State → Prop} {free : Addr → Prop} {Ts : List Cond} {own C : String} {b : Addr} {As rest : List Value} {g : JFrame}
theorem vx_callBack (cb : CallB R s args own index y bytes maxL ret ws rm mc ms n) (hM : vx_Met l y ws rm Pc Qc XC mc ms free) (hbl : FrameBlind Pc) : vx_Back l R p e below s args y 3 8 (PreOf R mc ms Pc) (PostOf Qc mc ms free) (vx_Post XC mc ms free) := by
  obtain ⟨hrc, hrs, hfr, hlo, hws, hcw, -, hini, -⟩ := cb
  exact vx_back (bytes := bytes) (maxL := maxL) (ret := ret) hM hbl hrc hrs hfr hlo hws hcw (fun a' U hW => word_at hW (Or.inl (by first | rfl | simp [Cond.onTables, Cond.keeps, Cond.steady])) hini)
theorem vx_runV (S : CallFix p m c cc nL s args Ts own) (hM : vx_Met l y ws rm Pc Qc XC mc ms free) (cw : CallW R s args own C index y bytes maxL ret ws rm mc ms n) (hp : PreV s H C b Pc As)
    (hg : g.method = m) (hn : As.length = n) (hsize : g.locals.size = nL) (hstack : g.stack = As.reverse ++ .ref b :: rest) (hW : 2 * g.monitorRoom + (rest.map fun v => v.category).sum ≤ 8) (hdg : decode cc g.pc = .ok (.invokevirtual index, 3)) (hf : cells + mc ≤ R.cells ∧ slots + ms ≤ R.slots) :
    vx_Run p l e R s m args below meth c H locs cells slots mc ms g rest (Qc (Value.ref b :: As).toArray) XC free := by
  have hK : vx_Back l R p e below s args y 3 8 (PreOf R mc ms Pc) (PostOf Qc mc ms free) (vx_Post XC mc ms free) := vx_callBack cw.1 hM hp.1
  obtain ⟨⟨-, -, -, -, -, -, hcode, -, hy, hlen, hl⟩, hin, hse⟩ := cw
  obtain ⟨hx, hb, hml, ho, -⟩ := S
  obtain ⟨-, ⟨cellB, hcB, hoB, hclB⟩, hPc⟩ := hp
  intro T hT X
  rcases vx_callV X hx (C := C) (bytes := bytes) (maxL := maxL) (ret := ret) ho hl hin hse hcode hy hK (by rw [hT]; exact hcB) hoB hclB hg (hsize.trans hml.symm) (argsL := As) (rest := rest) (fun sig h => hn.trans (hlen sig h)) hstack hW (by rw [hb]; exact hdg)
    (fun vm₁ hW₁ => ⟨hf.1, hf.2, hPc (T.setVm vm₁) hT hW₁⟩) with ⟨v, vm₁, ⟨U', l2, c2, s2⟩, hW₁, X', ⟨g', mk, t, L, e1, e2, hq, h1, hL, h2, h3⟩, st⟩ | ⟨q, vm₁, ⟨U', l2, c2, s2⟩, hW₁, X', ⟨g', mk, t, L, E, ce, e1, e2, hq, hce, hcv, hcl, h1, hL, h2, h3⟩, st⟩
  · dsimp only [Pt.U, Pt.locs, Pt.cells, Pt.slots] at X' e1 e2 h1 h2 h3 st
    subst h1; subst h2; subst h3
    exact Or.inl ⟨v, (T.setVm vm₁).calling g' mk (Value.ref b :: As).toArray, t, U', L, hT, X', hL, e1, e2, hq, st⟩
  · dsimp only [Pt.U, Pt.locs, Pt.cells, Pt.slots] at X' e1 e2 h1 h2 h3 st hcl
    subst h1; subst h2; subst h3
    exact Or.inr ⟨q, (T.setVm vm₁).calling g' mk (Value.ref b :: As).toArray, t, U', L, E, ce, hT, X', hL, e1, e2, hq, hce, hcv, vx_cls hW₁ hcl, st⟩
theorem vx_runS (S : CallFix p m c cc nL s args Ts own) (hM : vx_Met l y ws rm Pc Qc XC mc ms free) (cw : CallB R s args own index y bytes maxL ret ws rm mc ms n ∧ (Cond.static y).before args s = true) (hp : PreS s H Pc As)
    (hg : g.method = m) (hn : As.length = n) (hsize : g.locals.size = nL) (hstack : g.stack = As.reverse ++ rest) (hW : 2 * g.monitorRoom + (rest.map fun v => v.category).sum ≤ 8) (hdg : decode cc g.pc = .ok (.invokestatic index, 3)) (hf : cells + mc ≤ R.cells ∧ slots + ms ≤ R.slots) :
    vx_Run p l e R s m args below meth c H locs cells slots mc ms g rest (Qc As.toArray) XC free := by
  have hK : vx_Back l R p e below s args y 3 8 (PreOf R mc ms Pc) (PostOf Qc mc ms free) (vx_Post XC mc ms free) := vx_callBack cw.1 hM hp.1
  obtain ⟨⟨-, -, -, -, -, -, hcode, hini, hy, hlen, hl⟩, hstt⟩ := cw
  obtain ⟨hx, hb, hml, ho, -⟩ := S
  intro T hT X
  rcases vx_callS X hx (bytes := bytes) (maxL := maxL) (ret := ret) ho hl hstt hini hcode hy hK hg (hsize.trans hml.symm) (argsL := As) (rest := rest) (fun sig h => hn.trans (hlen sig h)) hstack hW (by rw [hb]; exact hdg)
    (fun vm₁ hW₁ => ⟨hf.1, hf.2, hp.2 (T.setVm vm₁) hT hW₁⟩) with ⟨v, vm₁, ⟨U', l2, c2, s2⟩, hW₁, X', ⟨g', mk, t, L, e1, e2, hq, h1, hL, h2, h3⟩, st⟩ | ⟨q, vm₁, ⟨U', l2, c2, s2⟩, hW₁, X', ⟨g', mk, t, L, E, ce, e1, e2, hq, hce, hcv, hcl, h1, hL, h2, h3⟩, st⟩
  · dsimp only [Pt.U, Pt.locs, Pt.cells, Pt.slots] at X' e1 e2 h1 h2 h3 st
    subst h1; subst h2; subst h3
    exact Or.inl ⟨v, (T.setVm vm₁).calling g' mk As.toArray, t, U', L, hT, X', hL, e1, e2, hq, st⟩
  · dsimp only [Pt.U, Pt.locs, Pt.cells, Pt.slots] at X' e1 e2 h1 h2 h3 st hcl
    subst h1; subst h2; subst h3
    exact Or.inr ⟨q, (T.setVm vm₁).calling g' mk As.toArray, t, U', L, E, ce, hT, X', hL, e1, e2, hq, hce, hcv, vx_cls hW₁ hcl, st⟩
end Runs
section Rows
variable {p : Program} {l : Launch} {e : Env} {R : Room} {s : State} {m : MethodId} {args : Array Value} {below : List Frame} {meth : Method} {c : Code} {H : Heap} {locs : List Loc} {cells slots : Nat} {Q : State → Prop}
variable {mc ms : Nat} {free : Addr → Prop} {A0 A1 : Nat → Prop} {H0 : Heap} {a : Array Value} {pc : Nat} {ls : Array Slot} {st0 rest : List Value}
theorem vx_keep {st₀ t T' : State} {L : List Loc} (h0 : st₀.heap = H) (e1 : T'.heap = t.heap) (hS : va_S A0 H0 H locs) (hA : ∀ q, q < H.size → A1 q → A0 q) (hf : ∀ q, free q → A0 q) (hL : ∀ q ∈ L, free q.base) (hF : va_F A1 st₀ t) :
    H.size ≤ T'.heap.size ∧ (∀ q : Nat, q < H.size → ¬ A1 q → T'.heap[q]? = H[q]?) ∧ va_S A0 H0 T'.heap (locs ++ L) := by
  obtain ⟨hz, hk⟩ := hF
  rw [h0] at hz hk
  exact ⟨by rw [e1]; exact hz, fun q h1 h2 => by rw [e1]; exact hk q h1 h2,
    ⟨Nat.le_trans hS.1 (by rw [e1]; exact hz), fun q h1 h2 => by rw [e1, hk q (Nat.lt_of_lt_of_le h1 hS.1) (fun z => h2 (hA q (Nat.lt_of_lt_of_le h1 hS.1) z))]; exact hS.2.1 q h1 h2, fun q hq => by
      rcases List.mem_append.mp hq with h | h
      · exact hS.2.2 q h
      · exact hf _ (hL q h)⟩⟩
theorem vx_calli {S SX : Type} {post : Int32 → S → Prop} {px : SX → Prop} {B : S → State → Prop} {BX : String → SX → State → Prop} {AX : Nat → Prop} (hr : vx_Run p l e R s m args below meth c H locs cells slots mc ms (F0 m pc ls st0) rest (va_Qi post B A1 a) (vx_X px BX AX) free) (hS : va_S A0 H0 H locs) (hA : ∀ q, q < H.size → A1 q → A0 q) (hf : ∀ q, free q → A0 q) (hAX : ∀ q, q < H.size → AX q → A0 q)
    (kx : ∀ (E : String) (ce : Cell) (q9 : Addr) (u : SX) (t : State) (H1 : Heap) (locs1 : List Loc), t.heap = H1 → s.vm.Alike t.vm → px u → BX E u t → H.size ≤ H1.size → (∀ q : Nat, q < H.size → ¬ AX q → H1[q]? = H[q]?) → va_S A0 H0 H1 locs1 → H1[q9]? = some ce → ce.vm = .none → s.vm.findClass E = some ce.cls → vx_W p l e R s m args below meth c H1 locs1 (cells + mc) (slots + ms) Q (F0 m pc ls rest) q9)
    (kk : ∀ (r : Int32) (u : S) (t : State) (H1 : Heap) (locs1 : List Loc), t.heap = H1 → s.vm.Alike t.vm → post r u → B u t → H.size ≤ H1.size → (∀ q : Nat, q < H.size → ¬ A1 q → H1[q]? = H[q]?) → va_S A0 H0 H1 locs1 → W p l e R s m args below meth c H1 locs1 (cells + mc) (slots + ms) Q (F0 m (pc + 3) ls (.int r :: rest))) : W p l e R s m args below meth c H locs cells slots Q (F0 m pc ls st0) := by
  intro T hT X
  rcases hr T hT X with ⟨v, st₀, t, T', L, h0, X', hL, e1, e2, ⟨⟨r, u, hv, hp, hb⟩, hF⟩, st⟩ | ⟨q, st₀, t, T', L, E, ce, h0, X', hL, e1, e2, ⟨u, hp, hb, hF⟩, hce, hcv, hcl, st⟩
  · cases hv
    obtain ⟨k1, k2, k3⟩ := vx_keep h0 e1 hS hA hf hL hF
    obtain ⟨t2, a1, b1⟩ := kk r u t T'.heap (locs ++ L) e1.symm (by rw [← e2]; exact X'.warmed.alike) hp hb k1 k2 k3 T' rfl X'
    exact ⟨t2, st t2 a1, b1⟩
  · obtain ⟨k1, k2, k3⟩ := vx_keep h0 e1 hS hAX hf hL hF
    obtain ⟨t2, a1, b1⟩ := kx E ce q u t T'.heap (locs ++ L) e1.symm (by rw [← e2]; exact X'.warmed.alike) hp hb k1 k2 k3 (by rw [e1]; exact hce) hcv hcl T' rfl X'
    exact ⟨t2, st.trans a1, b1⟩
theorem vx_calll {S SX : Type} {post : Int64 → S → Prop} {px : SX → Prop} {B : S → State → Prop} {BX : String → SX → State → Prop} {AX : Nat → Prop} (hr : vx_Run p l e R s m args below meth c H locs cells slots mc ms (F0 m pc ls st0) rest (va_Ql post B A1 a) (vx_X px BX AX) free) (hS : va_S A0 H0 H locs) (hA : ∀ q, q < H.size → A1 q → A0 q) (hf : ∀ q, free q → A0 q) (hAX : ∀ q, q < H.size → AX q → A0 q)
    (kx : ∀ (E : String) (ce : Cell) (q9 : Addr) (u : SX) (t : State) (H1 : Heap) (locs1 : List Loc), t.heap = H1 → s.vm.Alike t.vm → px u → BX E u t → H.size ≤ H1.size → (∀ q : Nat, q < H.size → ¬ AX q → H1[q]? = H[q]?) → va_S A0 H0 H1 locs1 → H1[q9]? = some ce → ce.vm = .none → s.vm.findClass E = some ce.cls → vx_W p l e R s m args below meth c H1 locs1 (cells + mc) (slots + ms) Q (F0 m pc ls rest) q9)
    (kk : ∀ (r : Int64) (u : S) (t : State) (H1 : Heap) (locs1 : List Loc), t.heap = H1 → s.vm.Alike t.vm → post r u → B u t → H.size ≤ H1.size → (∀ q : Nat, q < H.size → ¬ A1 q → H1[q]? = H[q]?) → va_S A0 H0 H1 locs1 → W p l e R s m args below meth c H1 locs1 (cells + mc) (slots + ms) Q (F0 m (pc + 3) ls (.long r :: rest))) : W p l e R s m args below meth c H locs cells slots Q (F0 m pc ls st0) := by
  intro T hT X
  rcases hr T hT X with ⟨v, st₀, t, T', L, h0, X', hL, e1, e2, ⟨⟨r, u, hv, hp, hb⟩, hF⟩, st⟩ | ⟨q, st₀, t, T', L, E, ce, h0, X', hL, e1, e2, ⟨u, hp, hb, hF⟩, hce, hcv, hcl, st⟩
  · cases hv
    obtain ⟨k1, k2, k3⟩ := vx_keep h0 e1 hS hA hf hL hF
    obtain ⟨t2, a1, b1⟩ := kk r u t T'.heap (locs ++ L) e1.symm (by rw [← e2]; exact X'.warmed.alike) hp hb k1 k2 k3 T' rfl X'
    exact ⟨t2, st t2 a1, b1⟩
  · obtain ⟨k1, k2, k3⟩ := vx_keep h0 e1 hS hAX hf hL hF
    obtain ⟨t2, a1, b1⟩ := kx E ce q u t T'.heap (locs ++ L) e1.symm (by rw [← e2]; exact X'.warmed.alike) hp hb k1 k2 k3 (by rw [e1]; exact hce) hcv hcl T' rfl X'
    exact ⟨t2, st.trans a1, b1⟩
theorem vx_callf {S SX : Type} {post : UInt32 → S → Prop} {px : SX → Prop} {B : S → State → Prop} {BX : String → SX → State → Prop} {AX : Nat → Prop} (hr : vx_Run p l e R s m args below meth c H locs cells slots mc ms (F0 m pc ls st0) rest (va_Qf post B A1 a) (vx_X px BX AX) free) (hS : va_S A0 H0 H locs) (hA : ∀ q, q < H.size → A1 q → A0 q) (hf : ∀ q, free q → A0 q) (hAX : ∀ q, q < H.size → AX q → A0 q)
    (kx : ∀ (E : String) (ce : Cell) (q9 : Addr) (u : SX) (t : State) (H1 : Heap) (locs1 : List Loc), t.heap = H1 → s.vm.Alike t.vm → px u → BX E u t → H.size ≤ H1.size → (∀ q : Nat, q < H.size → ¬ AX q → H1[q]? = H[q]?) → va_S A0 H0 H1 locs1 → H1[q9]? = some ce → ce.vm = .none → s.vm.findClass E = some ce.cls → vx_W p l e R s m args below meth c H1 locs1 (cells + mc) (slots + ms) Q (F0 m pc ls rest) q9)
    (kk : ∀ (r : UInt32) (u : S) (t : State) (H1 : Heap) (locs1 : List Loc), t.heap = H1 → s.vm.Alike t.vm → post r u → B u t → H.size ≤ H1.size → (∀ q : Nat, q < H.size → ¬ A1 q → H1[q]? = H[q]?) → va_S A0 H0 H1 locs1 → W p l e R s m args below meth c H1 locs1 (cells + mc) (slots + ms) Q (F0 m (pc + 3) ls (.float r :: rest))) : W p l e R s m args below meth c H locs cells slots Q (F0 m pc ls st0) := by
  intro T hT X
  rcases hr T hT X with ⟨v, st₀, t, T', L, h0, X', hL, e1, e2, ⟨⟨r, u, hv, hp, hb⟩, hF⟩, st⟩ | ⟨q, st₀, t, T', L, E, ce, h0, X', hL, e1, e2, ⟨u, hp, hb, hF⟩, hce, hcv, hcl, st⟩
  · cases hv
    obtain ⟨k1, k2, k3⟩ := vx_keep h0 e1 hS hA hf hL hF
    obtain ⟨t2, a1, b1⟩ := kk r u t T'.heap (locs ++ L) e1.symm (by rw [← e2]; exact X'.warmed.alike) hp hb k1 k2 k3 T' rfl X'
    exact ⟨t2, st t2 a1, b1⟩
  · obtain ⟨k1, k2, k3⟩ := vx_keep h0 e1 hS hAX hf hL hF
    obtain ⟨t2, a1, b1⟩ := kx E ce q u t T'.heap (locs ++ L) e1.symm (by rw [← e2]; exact X'.warmed.alike) hp hb k1 k2 k3 (by rw [e1]; exact hce) hcv hcl T' rfl X'
    exact ⟨t2, st.trans a1, b1⟩
theorem vx_calld {S SX : Type} {post : UInt64 → S → Prop} {px : SX → Prop} {B : S → State → Prop} {BX : String → SX → State → Prop} {AX : Nat → Prop} (hr : vx_Run p l e R s m args below meth c H locs cells slots mc ms (F0 m pc ls st0) rest (va_Qd post B A1 a) (vx_X px BX AX) free) (hS : va_S A0 H0 H locs) (hA : ∀ q, q < H.size → A1 q → A0 q) (hf : ∀ q, free q → A0 q) (hAX : ∀ q, q < H.size → AX q → A0 q)
    (kx : ∀ (E : String) (ce : Cell) (q9 : Addr) (u : SX) (t : State) (H1 : Heap) (locs1 : List Loc), t.heap = H1 → s.vm.Alike t.vm → px u → BX E u t → H.size ≤ H1.size → (∀ q : Nat, q < H.size → ¬ AX q → H1[q]? = H[q]?) → va_S A0 H0 H1 locs1 → H1[q9]? = some ce → ce.vm = .none → s.vm.findClass E = some ce.cls → vx_W p l e R s m args below meth c H1 locs1 (cells + mc) (slots + ms) Q (F0 m pc ls rest) q9)
    (kk : ∀ (r : UInt64) (u : S) (t : State) (H1 : Heap) (locs1 : List Loc), t.heap = H1 → s.vm.Alike t.vm → post r u → B u t → H.size ≤ H1.size → (∀ q : Nat, q < H.size → ¬ A1 q → H1[q]? = H[q]?) → va_S A0 H0 H1 locs1 → W p l e R s m args below meth c H1 locs1 (cells + mc) (slots + ms) Q (F0 m (pc + 3) ls (.double r :: rest))) : W p l e R s m args below meth c H locs cells slots Q (F0 m pc ls st0) := by
  intro T hT X
  rcases hr T hT X with ⟨v, st₀, t, T', L, h0, X', hL, e1, e2, ⟨⟨r, u, hv, hp, hb⟩, hF⟩, st⟩ | ⟨q, st₀, t, T', L, E, ce, h0, X', hL, e1, e2, ⟨u, hp, hb, hF⟩, hce, hcv, hcl, st⟩
  · cases hv
    obtain ⟨k1, k2, k3⟩ := vx_keep h0 e1 hS hA hf hL hF
    obtain ⟨t2, a1, b1⟩ := kk r u t T'.heap (locs ++ L) e1.symm (by rw [← e2]; exact X'.warmed.alike) hp hb k1 k2 k3 T' rfl X'
    exact ⟨t2, st t2 a1, b1⟩
  · obtain ⟨k1, k2, k3⟩ := vx_keep h0 e1 hS hAX hf hL hF
    obtain ⟨t2, a1, b1⟩ := kx E ce q u t T'.heap (locs ++ L) e1.symm (by rw [← e2]; exact X'.warmed.alike) hp hb k1 k2 k3 (by rw [e1]; exact hce) hcv hcl T' rfl X'
    exact ⟨t2, st.trans a1, b1⟩
theorem vx_callv {S SX : Type} {post : S → Prop} {px : SX → Prop} {B : S → State → Prop} {BX : String → SX → State → Prop} {AX : Nat → Prop} (hr : vx_Run p l e R s m args below meth c H locs cells slots mc ms (F0 m pc ls st0) rest (va_Qv post B A1 a) (vx_X px BX AX) free) (hS : va_S A0 H0 H locs) (hA : ∀ q, q < H.size → A1 q → A0 q) (hf : ∀ q, free q → A0 q) (hAX : ∀ q, q < H.size → AX q → A0 q)
    (kx : ∀ (E : String) (ce : Cell) (q9 : Addr) (u : SX) (t : State) (H1 : Heap) (locs1 : List Loc), t.heap = H1 → s.vm.Alike t.vm → px u → BX E u t → H.size ≤ H1.size → (∀ q : Nat, q < H.size → ¬ AX q → H1[q]? = H[q]?) → va_S A0 H0 H1 locs1 → H1[q9]? = some ce → ce.vm = .none → s.vm.findClass E = some ce.cls → vx_W p l e R s m args below meth c H1 locs1 (cells + mc) (slots + ms) Q (F0 m pc ls rest) q9)
    (kk : ∀ (u : S) (t : State) (H1 : Heap) (locs1 : List Loc), t.heap = H1 → s.vm.Alike t.vm → post u → B u t → H.size ≤ H1.size → (∀ q : Nat, q < H.size → ¬ A1 q → H1[q]? = H[q]?) → va_S A0 H0 H1 locs1 → W p l e R s m args below meth c H1 locs1 (cells + mc) (slots + ms) Q (F0 m (pc + 3) ls (rest))) : W p l e R s m args below meth c H locs cells slots Q (F0 m pc ls st0) := by
  intro T hT X
  rcases hr T hT X with ⟨v, st₀, t, T', L, h0, X', hL, e1, e2, ⟨⟨u, hv, hp, hb⟩, hF⟩, st⟩ | ⟨q, st₀, t, T', L, E, ce, h0, X', hL, e1, e2, ⟨u, hp, hb, hF⟩, hce, hcv, hcl, st⟩
  · cases hv
    obtain ⟨k1, k2, k3⟩ := vx_keep h0 e1 hS hA hf hL hF
    obtain ⟨t2, a1, b1⟩ := kk u t T'.heap (locs ++ L) e1.symm (by rw [← e2]; exact X'.warmed.alike) hp hb k1 k2 k3 T' rfl X'
    exact ⟨t2, st t2 a1, b1⟩
  · obtain ⟨k1, k2, k3⟩ := vx_keep h0 e1 hS hAX hf hL hF
    obtain ⟨t2, a1, b1⟩ := kx E ce q u t T'.heap (locs ++ L) e1.symm (by rw [← e2]; exact X'.warmed.alike) hp hb k1 k2 k3 (by rw [e1]; exact hce) hcv hcl T' rfl X'
    exact ⟨t2, st.trans a1, b1⟩
/-- caught by the row x of this method's table; the rows ahead don't take it -/
theorem vx_catch {own name : String} {E : String} {ce : Cell} {q : Addr} (hown : s.vm.findClass own = some m.cls) (pre : List ExceptionTableEntry) (x : ExceptionTableEntry) (suf : List ExceptionTableEntry) (hsplit : c.exceptionTable.toList = pre ++ x :: suf)
    (hpass : ∀ z ∈ pre, covers z pc = false ∨ (z.catchType ≠ 0 ∧ ∃ nm : String, (Cond.classLink own z.catchType nm).before args s = true ∧ va_Nc E nm s)) (hx : covers x pc = true) (h0 : x.catchType ≠ 0)
    (hlink : (Cond.classLink own x.catchType name).before args s = true) (hcast : (Cond.castable E name).before args s = true) (hcell : H[q]? = some ce) (hv : ce.vm = .none) (hcl : s.vm.findClass E = some ce.cls)
    (kk : W p l e R s m args below meth c H locs cells slots Q (F0 m x.handlerPc ls [.ref q])) : vx_W p l e R s m args below meth c H locs cells slots Q (F0 m pc ls rest) q := by
  intro T hT X
  have hpl : e.platform.magicAccessors = ({} : Platform).magicAccessors := by rw [X.admits.platform]
  obtain ⟨c3, c4, hc3, hc4, hasg⟩ := Cond.castable_spec hcast
  cases Option.some.inj (hc3.symm.trans hcl)
  obtain ⟨c5, hc5, hcl5⟩ := Cond.classLink_spec hown hlink e.platform hpl
  cases Option.some.inj (hc4.symm.trans hc5)
  obtain ⟨vm', X', st⟩ := X.thenCaughtThrough q (g := F0 m pc ls rest) rfl (Steps.refl _) (by rw [hT]; exact hcell) (by rw [hv]; rfl) (by obtain ⟨k9, h9, -⟩ := Vm.findClass_spec hcl; exact ⟨k9, h9⟩) pre x suf hsplit
    (fun z hz => by
      rcases hpass z hz with h | ⟨hz0, nm, hl1, hn1⟩
      · exact Or.inl h
      · obtain ⟨c6, hc6, hcl6⟩ := Cond.classLink_spec hown hl1 e.platform hpl
        obtain ⟨a8, b8, h1, h2, h3⟩ := hn1
        cases Option.some.inj (h1.symm.trans hcl)
        cases Option.some.inj (h2.symm.trans hc6)
        exact Or.inr ⟨hz0, _, hcl6, h3⟩) hx (Or.inr ⟨h0, c4, hcl5, hasg⟩)
  obtain ⟨t, a1, b1⟩ := kk (T.setVm vm') hT X'
  exact ⟨t, st.trans a1, b1⟩
end Rows
section Ends
variable {p : Program} {l : Launch} {e : Env} {R : Room} {s : State} {m : MethodId} {args : Array Value} {below : List Frame} {meth : Method} {c : Code} {H : Heap} {locs : List Loc} {cells slots : Nat} {Q : State → Prop}
variable {mc ms : Nat} {free : Addr → Prop} {A0 A1 : Nat → Prop} {H0 : Heap} {a : Array Value} {ls : Array Slot} {st0 rest : List Value}
variable {Qc : Array Value → State → Outcome → State → Prop} {XC : String → State → State → Prop}
/-- what a body that may throw owes at its end -/
def vx_MQ (below : List Frame) (Qc : Array Value → State → Outcome → State → Prop) (XC : String → State → State → Prop) (a : Array Value) (s : State) (mc ms : Nat) (free : Addr → Prop) : State → Prop := fun t =>
  ∃ o, t.status = .running ∧ Ended t below o ∧ vx_Q Qc XC mc ms free a s o t
theorem vx_ret {g : JFrame} {mc ms : Nat} (k : W p l e R s m args below meth c H locs cells slots (MQ below Qc args s mc ms free) g) : W p l e R s m args below meth c H locs cells slots (vx_MQ below Qc XC args s mc ms free) g := by
  intro T hT X
  obtain ⟨t, a1, o, b1, b2, b3, b4⟩ := k T hT X
  exact ⟨t, a1, o, b1, b2, Or.inl ⟨b3, b4⟩⟩
/-- not caught here: it goes on to the caller -/
theorem vx_widen {g : JFrame} {q : Addr} {k n : Nat} (h1 : cells ≤ k) (h2 : slots ≤ n) (kk : vx_W p l e R s m args below meth c H locs k n Q g q) : vx_W p l e R s m args below meth c H locs cells slots Q g q := fun T hT X => kk T hT (stand_widen X h1 h2)
theorem vx_out {pc : Nat} {E : String} {ce : Cell} {q : Addr} {mc ms : Nat} (hout : ∀ x ∈ c.exceptionTable.toList, covers x pc = false) (hlocks : meth.locks = false) (hcell : H[q]? = some ce) (hv : ce.vm = .none) (hcl : s.vm.findClass E = some ce.cls)
    (hx : ∀ t : State, t.heap = H → s.vm.Alike t.vm → XC E s t) (hf : ∀ z ∈ locs, free z.base) (hc : cells ≤ mc) (hs : slots ≤ ms) :
    vx_W p l e R s m args below meth c H locs cells slots (vx_MQ below Qc XC args s mc ms free) (F0 m pc ls rest) q := by
  intro T hT X
  obtain ⟨st1, hrun, hend, hW, hsm⟩ := X.leaveThrown q (g := F0 m pc ls rest) rfl rfl rfl hout hlocks
  have hcell9 : (T.setFrames (.throwing q :: below)).heap[q]? = some ce := by
    show T.heap[q]? = some ce
    rw [hT]; exact hcell
  exact ⟨_, st1, .threw q, hrun, hend, Or.inr ⟨q, rfl, E, ce, locs, hx _ hT hW.alike, hcell9, hv, hcl, hW, hsm.mono hc hs, hf⟩⟩
theorem vx_frame {U : State} {k n : Nat} (h : s.sameButNew ({ U with vm := s.vm } : State) locs k n) : s.heap.size ≤ U.heap.size ∧ ∀ q : Nat, q < s.heap.size → (∀ z ∈ locs, z.base ≠ q) → U.heap[q]? = s.heap[q]? := by
  obtain ⟨-, h2, -, -, -, h6⟩ := h
  refine ⟨h2, fun q hq hz => ?_⟩
  obtain ⟨c9, e1, e2, e3, e4⟩ := h6 q _ (Array.getElem?_eq_getElem hq)
  have hs : c9.slots = (s.heap[q]).slots := Array.ext_getElem? fun i => e4 i fun hm => hz _ hm rfl
  have h9 : c9 = s.heap[q] := by
    rw [hs] at e2
    exact e2
  have e5 : U.heap[q]? = some c9 := e1
  rw [e5, h9, Array.getElem?_eq_getElem hq]
/-- the words of a throw but the four that speak of the heap -/
def vx_no (w : Cond) : Bool := decide (w ≠ .isRef (.static Bundle.tN "UNASSIGNED_STACK" Bundle.steD)) && decide (w ≠ .isRef (.static Bundle.tN "SUPPRESSED_SENTINEL" Bundle.listD)) && decide (w ≠ .laysStatic Bundle.tN "UNASSIGNED_STACK" Bundle.steD) && decide (w ≠ .laysStatic Bundle.tN "SUPPRESSED_SENTINEL" Bundle.listD)
def vx_at0 (own : String) (ic : Nat) (X : String) (names : List String) : List Cond := (Bundle.ownAtoms0 own ic X names).filter vx_no
def vx_atS (own : String) (ic : Nat) (X : String) (names : List String) : List Cond := (Bundle.ownAtoms own ic X names).filter vx_no
/-- a word that the tables alone decide, or a good one -/
def vx_ot (w : Cond) : Bool := w.onTables || goodWord w
theorem vx_ot_at {args a' : Array Value} {s U : State} {w : Cond} (hW : s.WarmedH U.vm) (hvm : s.vm = U.vm) (hg : vx_ot w = true) (h : w.before args s = true) : w.before a' U = true := by
  simp only [vx_ot, Bool.or_eq_true] at hg
  rcases hg with hg | hg
  · exact va_tabs hg hvm h
  · exact word_at hW (good_of_word hg) h
/-- a list's words: the good ones out of the method's own list, the others by premises of their own -/
theorem vx_hat {args : Array Value} {s : State} {L B : List Cond} (h1 : ∀ w ∈ L.filter goodWord, w.before args s = true) (h2 : ∀ w ∈ L.filter (fun w => !goodWord w), w ∈ B) (h3 : ∀ w ∈ B, w.before args s = true) : ∀ w ∈ L, w.before args s = true := by
  intro w hw
  by_cases g : goodWord w = true
  · exact h1 w (List.mem_filter.mpr ⟨hw, g⟩)
  · refine h3 w (h2 w (List.mem_filter.mpr ⟨hw, ?_⟩))
    show (!goodWord w) = true
    cases hgw : goodWord w
    · rfl
    · exact absurd hgw g
theorem vx_c {args : Array Value} {s : State} {w : Cond} {B : List Cond} (h : w.before args s = true) (t : ∀ w ∈ B, w.before args s = true) : ∀ w' ∈ w :: B, w'.before args s = true := fun w' h' => (List.mem_cons.mp h').elim (fun e => by rw [e]; exact h) (t w')
theorem vx_n {args : Array Value} {s : State} : ∀ w ∈ ([] : List Cond), w.before args s = true := fun _ h => nomatch h
theorem vx_own {args : Array Value} {s : State} {L : List Cond} (h1 : ∀ w ∈ L.filter vx_no, w.before args s = true)
    (hU : (Cond.isRef (.static Bundle.tN "UNASSIGNED_STACK" Bundle.steD)).before args s = true) (hN : (Cond.isRef (.static Bundle.tN "SUPPRESSED_SENTINEL" Bundle.listD)).before args s = true)
    (lU : (Cond.laysStatic Bundle.tN "UNASSIGNED_STACK" Bundle.steD).before args s = true) (lN : (Cond.laysStatic Bundle.tN "SUPPRESSED_SENTINEL" Bundle.listD).before args s = true) : ∀ w ∈ L, w.before args s = true := by
  intro w hw
  by_cases e1 : w = .isRef (.static Bundle.tN "UNASSIGNED_STACK" Bundle.steD)
  · rw [e1]; exact hU
  · by_cases e2 : w = .isRef (.static Bundle.tN "SUPPRESSED_SENTINEL" Bundle.listD)
    · rw [e2]; exact hN
    · by_cases e3 : w = .laysStatic Bundle.tN "UNASSIGNED_STACK" Bundle.steD
      · rw [e3]; exact lU
      · by_cases e4 : w = .laysStatic Bundle.tN "SUPPRESSED_SENTINEL" Bundle.listD
        · rw [e4]; exact lN
        · exact h1 w (List.mem_filter.mpr ⟨hw, by unfold vx_no; rw [decide_eq_true e1, decide_eq_true e2, decide_eq_true e3, decide_eq_true e4]; rfl⟩)
/-- where a static field lies, its class's statics cell in H -/
def vx_L (C n d : String) (A : Nat → Prop) (U : State) (H : Heap) : Prop := ∃ (c : ClassId) (k : Class) (i : Nat) (f : Field) (a : Nat) (cell : Cell), U.vm.findClass C = some c ∧ U.fieldFound? C n d = some (c, k, i, f) ∧ f.isStatic = true ∧ k.statics = some a ∧ H[a]? = some cell ∧ cell.vm.isStatics = true ∧ cell.cls = c ∧ f.slot < cell.slots.size ∧ k.staticTypes[f.slot]? = some f.type ∧ ¬ A a
theorem vx_L.moved {C n d : String} {A : Nat → Prop} {u U : State} {H : Heap} (hvm : u.vm.Alike U.vm) (h : vx_L C n d A u H) : vx_L C n d A U H := by
  obtain ⟨c, k, i, f, a, cell, h1, h2, h3, h4, h5, h6, h7, h8, h9, h10⟩ := h
  obtain ⟨k', hi', he⟩ := State.fieldFound?_setVm hvm h2
  exact ⟨c, k', i, f, a, cell, by rw [hvm.findClass]; exact h1, hi', h3, by rw [he]; exact h4, h5, h6, h7, h8, by rw [he]; exact h9, h10⟩
theorem vx_L.kept {C n d : String} {A : Nat → Prop} {U : State} {H H1 : Heap} (h : vx_L C n d A U H) (hq : ∀ a : Nat, a < H.size → ¬ A a → H1[a]? = H[a]?) : vx_L C n d A U H1 := by
  obtain ⟨c, k, i, f, a, cell, h1, h2, h3, h4, h5, h6, h7, h8, h9, h10⟩ := h
  exact ⟨c, k, i, f, a, cell, h1, h2, h3, h4, by rw [hq a (Array.getElem?_eq_some_iff.mp h5).1 h10]; exact h5, h6, h7, h8, h9, h10⟩
theorem vx_L.narrow {C n d : String} {A B : Nat → Prop} {U : State} {H : Heap} (h : vx_L C n d A U H) (hAB : ∀ q, B q → A q) : vx_L C n d B U H := by
  obtain ⟨c, k, i, f, a, cell, h1, h2, h3, h4, h5, h6, h7, h8, h9, h10⟩ := h
  exact ⟨c, k, i, f, a, cell, h1, h2, h3, h4, h5, h6, h7, h8, h9, fun z => h10 (hAB _ z)⟩
theorem vx_L.word {C n d : String} {A : Nat → Prop} {s : State} {args : Array Value} (h : vx_L C n d A s s.heap) : (Cond.laysStatic C n d).before args s = true := by
  obtain ⟨c, k, i, f, a, cell, h1, h2, h3, h4, h5, h6, h7, h8, h9, -⟩ := h
  show (Cond.laysStatic C n d).holds args s none s [] = true
  exact Cond.laysStatic_of h1 h2 h3 h4 h5 h6 h7 h8 h9
/-- .. and what it holds: null or some reference -/
def vx_Zq (C n d : String) (A : Nat → Prop) (U : State) (H : Heap) : Prop := va_Zq C n d A U H ∧ vx_L C n d A U H
theorem vx_Zq.moved {C n d : String} {A : Nat → Prop} {u U : State} {H : Heap} (hvm : u.vm.Alike U.vm) (h : vx_Zq C n d A u H) : vx_Zq C n d A U H := ⟨va_Zq.moved hvm h.1, vx_L.moved hvm h.2⟩
theorem vx_Zq.kept {C n d : String} {A : Nat → Prop} {U : State} {H H1 : Heap} (h : vx_Zq C n d A U H) (hq : ∀ a : Nat, a < H.size → ¬ A a → H1[a]? = H[a]?) : vx_Zq C n d A U H1 := ⟨va_Zq.kept h.1 hq, vx_L.kept h.2 hq⟩
theorem vx_Zq.narrow {C n d : String} {A B : Nat → Prop} {U : State} {H : Heap} (h : vx_Zq C n d A U H) (hAB : ∀ q, B q → A q) : vx_Zq C n d B U H := ⟨va_Zq.narrow h.1 hAB, vx_L.narrow h.2 hAB⟩
theorem vx_Zqof {args : Array Value} {s : State} {C n d : String} {A : Nat → Prop} (hl : (Cond.laysStatic C n d).before args s = true) (hini : (Cond.initialized C).before args s = true) (h : (Cond.isRef (.static C n d)).before args s = true) (hA : ∀ a : Nat, a < s.heap.size → ¬ A a) : vx_Zq C n d A s s.heap := by
  refine ⟨va_Zqof hl hini h hA, ?_⟩
  obtain ⟨c, k, i, f, a, cell, h1, h2, h3, h4, h5, h6, h7, h8, h9⟩ := Cond.laysStatic_spec hl
  exact ⟨c, k, i, f, a, cell, h1, h2, h3, h4, h5, h6, h7, h8, h9, hA a (Array.getElem?_eq_some_iff.mp h5).1⟩
theorem vx_isRef {C n d : String} {v : Value} {A : Nat → Prop} {s : State} {args : Array Value} (h : va_Z C n d v A s s.heap) (hv : v.isRef = true) : (Cond.isRef (.static C n d)).before args s = true := by
  obtain ⟨cf, kf, fi, f, a, cell, h1, h2, h3, h4, h5, h6, h7, -⟩ := h
  have he : (Term.static C n d).eval args s none [] s = some v := by
    simp [Term.eval, State.fieldNamed?, h1, h2, h4, h5, h6, h7]
  simp only [Cond.before, Cond.holds, Cond.value, he]
  cases v <;> simp_all [Value.isRef]
theorem vx_isRefq {C n d : String} {A : Nat → Prop} {s : State} {args : Array Value} (h : va_Zq C n d A s s.heap) : (Cond.isRef (.static C n d)).before args s = true := by
  rcases h with h | ⟨t, h⟩
  · exact vx_isRef h rfl
  · exact vx_isRef h rfl
/-- the same frame, seen from here: as if the method were called anew in this heap -/
theorem vx_rebase {T : State} (X : Stand p l e R s m args below meth c T locs cells slots) {R' : Room} (hf : R'.frames ≤ R.frames) (hl : R'.locals ≤ R.locals) (hc : cells + R'.cells ≤ R.cells) (hs : slots + R'.slots ≤ R.slots) :
    Stand p l e R' ((T.setVm s.vm).setFrames (.invoking m args :: below)) m args below meth c T [] 0 0 := by
  have htop : (T.setVm s.vm).topJava?.isSome := X.here.top
  have hF : ((T.setVm s.vm).setFrames (.invoking m args :: below)).frames = .invoking m args :: below := State.frames_setFrames _ (State.cur_lt_of_top htop)
  obtain ⟨g₀, hg0⟩ := Option.isSome_iff_exists.mp htop
  obtain ⟨r, hr⟩ := State.topJava?_eq_some.mp hg0
  have hl9 : e.platform.stackLimits (T.setVm s.vm).me = e.platform.stackLimits s.me := X.limits
  have hb9 : (T.setVm s.vm).me.stackBytes = s.me.stackBytes := X.bytes
  refine ⟨X.admits, X.cas, X.clock, hF, ?_, X.hears, X.method, X.code, X.here, X.tail, X.warmed, ?_, ?_, ?_⟩
  · have h := X.room
    have hU : ((T.setVm s.vm).setFrames (.invoking m args :: below)).localsInUse = s.localsInUse := by
      rw [State.localsInUse_invoking hF (meth := meth) (c := c) X.method X.code, State.localsInUse_invoking X.frames X.method X.code]
    simp only [State.hasRoom, Bool.and_eq_true, decide_eq_true_eq] at h ⊢
    obtain ⟨⟨⟨⟨h1, h2, h3, h4, h5, h6⟩, h7⟩, h8⟩, h9⟩ := h
    rw [X.frames, List.length_cons] at h2 h3
    have q1 := X.heapSize
    have q2 := X.used
    simp only [hF, hU, List.length_cons, State.stackLimits_setFrames, State.stackBytes_setFrames, hl9, hb9]
    refine ⟨⟨⟨⟨by omega, by omega, by omega, by omega, by omega, h6⟩, ?_⟩, ?_⟩, X.book⟩
    · show T.heap.size + R'.cells ≤ e.platform.maxCells
      omega
    · show T.slotsUsed + R'.slots ≤ e.platform.maxSlots
      omega
  · rw [State.stackLimits_setFrames]; rfl
  · rw [State.stackBytes_setFrames]; rfl
  · refine ⟨?_, Nat.le_refl _, Nat.le_refl _, ?_, ?_, fun a c9 h9 => ⟨c9, h9, rfl, rfl, fun _ _ => rfl⟩⟩
    · obtain ⟨t, ht, -⟩ := State.frames_cons hr
      show T.setVm s.vm = { ((T.setVm s.vm).setFrames (.invoking m args :: below)).setFrames (T.setVm s.vm).frames with heap := T.heap, slotsUsed := T.slotsUsed }
      rw [State.setFrames_setFrames, State.setFrames_self ht]
      rfl
    · show T.slotsUsed = T.slotsUsed + ((T.heap.toList.drop T.heap.size).map (·.slots.size)).sum
      rw [List.drop_eq_nil_of_le (Nat.le_of_eq Array.length_toList)]
      rfl
    · show ((T.heap.toList.drop T.heap.size).map (·.slots.size)).sum ≤ 0
      rw [List.drop_eq_nil_of_le (Nat.le_of_eq Array.length_toList)]
      exact Nat.le_refl _
/-- 'throw new E()': new; dup; invokespecial; athrow -/
theorem vx_throw0 {cc : ByteArray} {pc : Nat} (hexec : p.tables.exec = Jvm.exec) (hb : c.code = cc) (hl : l.stackTraces = false) {own cls : String} {names : List String} {ik ic mc ms : Nat} {A : Nat → Prop}
    (hown : s.vm.findClass own = some m.cls) (hcls : Bundle.fit cls = true) (hnames : ∀ n ∈ names, Bundle.fit n = true)
    (hk : (Cond.classLink own ik cls).before args s = true) (hini : (Cond.initialized cls).before args s = true) (hat : ∀ w ∈ vx_at0 own ic cls names, w.before args s = true)
    (hgood : ∀ w ∈ Cond.classLink own ik cls :: Cond.initialized cls :: vx_at0 own ic cls names, vx_ot w = true)
    (hU : vx_Zq Bundle.tN "UNASSIGNED_STACK" Bundle.steD A s s.heap) (hN : vx_Zq Bundle.tN "SUPPRESSED_SENTINEL" Bundle.listD A s s.heap) (hS : va_S A s.heap H locs) (hsize : ls.size = c.maxLocals)
    (d0 : decode cc pc = .ok (.new ik, 3)) (d3 : decode cc (pc + 3) = .ok (.dup, 1)) (d4 : decode cc (pc + 4) = .ok (.invokespecial ic, 3)) (d7 : decode cc (pc + 7) = .ok (.athrow, 1))
    (hout : ∀ x ∈ c.exceptionTable.toList, covers x (pc + 7) = false)
    (hRframes : names.length + 3 < R.frames) (hRlocals : (rest.map fun v => v.category).sum + (13 * (names.length + 1) + 42) ≤ R.locals) (hRcells : cells + 1 ≤ R.cells) (hRslots : slots + 6 ≤ R.slots) (hlocks : meth.locks = false)
    (hx : ∀ t : State, s.vm.Alike t.vm → H.size ≤ t.heap.size → (∀ q : Nat, q < H.size → t.heap[q]? = H[q]?) → XC cls s t)
    (hf : ∀ z ∈ locs, free z.base) (hc : cells + 1 ≤ mc) (hs : slots + 6 ≤ ms) :
    W p l e R s m args below meth c H locs cells slots (vx_MQ below Qc XC args s mc ms free) (F0 m pc ls rest) := by
  intro T hT X
  have htr : e.platform.stackTraces = false := (show e.platform.stackTraces = l.stackTraces by rw [X.admits.platform]).trans hl
  have Y := vx_rebase X (R' := { frames := R.frames, locals := R.locals, cells := 1, slots := 6 }) (Nat.le_refl _) (Nat.le_refl _) hRcells hRslots
  obtain ⟨s', hA⟩ : ∃ z, z = (T.setVm s.vm).setFrames (.invoking m args :: below) := ⟨_, rfl⟩
  rw [← hA] at Y
  have hvm : s'.vm = s.vm := by rw [hA]; rfl
  have hhp : s'.heap = H := by rw [hA]; exact hT
  have hW0 : s.WarmedH s'.vm := by rw [hvm]; exact State.WarmedH.refl s
  have hat' : ∀ w ∈ vx_at0 own ic cls names, w.before args s' = true := fun w hw => vx_ot_at hW0 hvm.symm (hgood w (List.mem_cons_of_mem _ (List.mem_cons_of_mem _ hw))) (hat w hw)
  have hk' : (Cond.classLink own ik cls).before args s' = true := vx_ot_at hW0 hvm.symm (hgood _ List.mem_cons_self) hk
  have hini' : (Cond.initialized cls).before args s' = true := vx_ot_at hW0 hvm.symm (hgood _ (List.mem_cons_of_mem _ List.mem_cons_self)) hini
  have hU' : vx_Zq Bundle.tN "UNASSIGNED_STACK" Bundle.steD A s' s'.heap := by rw [hhp]; exact vx_Zq.moved hW0.alike (hU.kept hS.2.1)
  have hN' : vx_Zq Bundle.tN "SUPPRESSED_SENTINEL" Bundle.listD A s' s'.heap := by rw [hhp]; exact vx_Zq.moved hW0.alike (hN.kept hS.2.1)
  have h : ∀ w ∈ Bundle.ownAtoms0 own ic cls names, w.before args s' = true := vx_own hat' (vx_isRefq hU'.1) (vx_isRefq hN'.1) hU'.2.word hN'.2.word
  have hown' : s'.vm.findClass own = some m.cls := by rw [hvm]; exact hown
  have hins : (Cond.instantiable cls 6).before args s' = true := h _ (by simp [Bundle.ownAtoms0])
  obtain ⟨vm₁, cX, kX, hfX, hkX, -, -, X₁, st1⟩ := Y.newCold hexec (own := own) (C := cls) (index := ik) (n := 6) hown' hk' hins hini'
    (g := F0 m pc ls rest) rfl (by rw [hb]; exact d0) (Nat.le_refl _) (Nat.le_refl _)
  generalize hT1 : (T.setVm vm₁).pushCell { cls := cX, slots := kX.instanceTypes.map defaultValue, vm := .none } = T1 at X₁ st1
  have hcat : (Value.ref T.heap.size).category = 1 := rfl
  have hcellA : T1.heap[T.heap.size]? = some (freshCell cX kX) := by rw [← hT1]; exact State.heap_pushCell_size _ _
  have d3' : decode c.code (pc + 3) = .ok (.dup, 1) := by rw [hb]; exact d3
  obtain ⟨U, hsteps, hrun, hend, hW, hsame, ce, hce, hO⟩ := X₁.ctorThrow0 hexec htr (own := own) (cls := cls) (names := names) (ic := ic) hown' hcls hnames h (fun x hx => nomatch hx) hfX hkX hcellA (by rw [hhp, hT]; exact Nat.le_refl _)
    (g := { method := m, pc := pc + 4, locals := ls, stack := .ref T.heap.size :: .ref T.heap.size :: rest, locked := none }) rfl hsize rfl rfl (rest := rest) rfl
    (by rw [hb]; exact d4) (by rw [hb]; exact d7) hout hRframes (by simp only [List.map_cons, List.sum_cons, hcat]; omega) hlocks
  obtain ⟨f1, f2⟩ := vx_frame hsame
  rw [hhp] at f1 f2
  have hWs : s.WarmedH U.vm := State.WarmedH.trans hW0 hW
  have hcl : s.vm.findClass cls = some ce.cls := by
    have h9 := hO.cls
    rw [hvm] at h9
    exact h9
  have hall : s.sameButNew ({ U with vm := s.vm } : State) locs mc ms := by
    subst hA
    obtain ⟨e1, e2⟩ := hsame
    rw [State.setFrames_setFrames] at e1
    have h2 : (T.setVm s.vm).sameButNew ({ U with vm := s.vm } : State) [] (0 + 1) (0 + 6) := ⟨e1, e2⟩
    have h3 := X.same.trans h2
    rw [List.append_nil] at h3
    exact h3.mono hc hs
  refine ⟨U, ?_, .threw T.heap.size, hrun, hend, Or.inr ⟨T.heap.size, rfl, cls, ce, locs, hx U hWs.alike f1 (fun q hq => f2 q hq (fun z hz => nomatch hz)), hce, hO.vm, hcl, hWs, hall, hf⟩⟩
  refine st1 _ ?_
  show Steps p.tables e below (T1.setTop { method := m, pc := pc + 3, locals := ls, stack := .ref T.heap.size :: rest, locked := none }) _
  jvm_step X₁.here [X₁.here.top, hexec, d3', Value.category]
  exact hsteps
/-- 'throw new E("text")': new; dup; ldc; invokespecial; athrow -/
theorem vx_throwS {cc : ByteArray} {pc : Nat} (hexec : p.tables.exec = Jvm.exec) (hb : c.code = cc) (hl : l.stackTraces = false) {own cls text : String} {names : List String} {ik is ic mc ms sa : Nat} {A : Nat → Prop}
    (hown : s.vm.findClass own = some m.cls) (hcls : Bundle.fit cls = true) (hnames : ∀ n ∈ names, Bundle.fit n = true)
    (hk : (Cond.classLink own ik cls).before args s = true) (hini : (Cond.initialized cls).before args s = true) (hstr : vk_R own is text sa s) (hat : ∀ w ∈ vx_atS own ic cls names, w.before args s = true)
    (hgood : ∀ w ∈ Cond.classLink own ik cls :: Cond.initialized cls :: vx_atS own ic cls names, vx_ot w = true)
    (hU : vx_Zq Bundle.tN "UNASSIGNED_STACK" Bundle.steD A s s.heap) (hN : vx_Zq Bundle.tN "SUPPRESSED_SENTINEL" Bundle.listD A s s.heap) (hS : va_S A s.heap H locs) (hsize : ls.size = c.maxLocals)
    (d0 : decode cc pc = .ok (.new ik, 3)) (d3 : decode cc (pc + 3) = .ok (.dup, 1)) (d4 : decode cc (pc + 4) = .ok (.ldc is, 2)) (d6 : decode cc (pc + 6) = .ok (.invokespecial ic, 3)) (d9 : decode cc (pc + 9) = .ok (.athrow, 1))
    (hout : ∀ x ∈ c.exceptionTable.toList, covers x (pc + 9) = false)
    (hRframes : names.length + 3 < R.frames) (hRlocals : (rest.map fun v => v.category).sum + (13 * (names.length + 1) + 43) ≤ R.locals) (hRcells : cells + 1 ≤ R.cells) (hRslots : slots + 6 ≤ R.slots) (hlocks : meth.locks = false)
    (hx : ∀ t : State, s.vm.Alike t.vm → H.size ≤ t.heap.size → (∀ q : Nat, q < H.size → t.heap[q]? = H[q]?) → XC cls s t)
    (hf : ∀ z ∈ locs, free z.base) (hc : cells + 1 ≤ mc) (hs : slots + 6 ≤ ms) :
    W p l e R s m args below meth c H locs cells slots (vx_MQ below Qc XC args s mc ms free) (F0 m pc ls rest) := by
  intro T hT X
  have htr : e.platform.stackTraces = false := (show e.platform.stackTraces = l.stackTraces by rw [X.admits.platform]).trans hl
  have Y := vx_rebase X (R' := { frames := R.frames, locals := R.locals, cells := 1, slots := 6 }) (Nat.le_refl _) (Nat.le_refl _) hRcells hRslots
  obtain ⟨s', hA⟩ : ∃ z, z = (T.setVm s.vm).setFrames (.invoking m args :: below) := ⟨_, rfl⟩
  rw [← hA] at Y
  have hvm : s'.vm = s.vm := by rw [hA]; rfl
  have hhp : s'.heap = H := by rw [hA]; exact hT
  have hW0 : s.WarmedH s'.vm := by rw [hvm]; exact State.WarmedH.refl s
  have hat' : ∀ w ∈ vx_atS own ic cls names, w.before args s' = true := fun w hw => vx_ot_at hW0 hvm.symm (hgood w (List.mem_cons_of_mem _ (List.mem_cons_of_mem _ hw))) (hat w hw)
  have hk' : (Cond.classLink own ik cls).before args s' = true := vx_ot_at hW0 hvm.symm (hgood _ List.mem_cons_self) hk
  have hini' : (Cond.initialized cls).before args s' = true := vx_ot_at hW0 hvm.symm (hgood _ (List.mem_cons_of_mem _ List.mem_cons_self)) hini
  have hU' : vx_Zq Bundle.tN "UNASSIGNED_STACK" Bundle.steD A s' s'.heap := by rw [hhp]; exact vx_Zq.moved hW0.alike (hU.kept hS.2.1)
  have hN' : vx_Zq Bundle.tN "SUPPRESSED_SENTINEL" Bundle.listD A s' s'.heap := by rw [hhp]; exact vx_Zq.moved hW0.alike (hN.kept hS.2.1)
  have h : ∀ w ∈ Bundle.ownAtoms own ic cls names, w.before args s' = true := vx_own hat' (vx_isRefq hU'.1) (vx_isRefq hN'.1) hU'.2.word hN'.2.word
  have hown' : s'.vm.findClass own = some m.cls := by rw [hvm]; exact hown
  have hins : (Cond.instantiable cls 6).before args s' = true := h _ (by simp [Bundle.ownAtoms])
  obtain ⟨vm₁, cX, kX, hfX, hkX, -, -, X₁, st1⟩ := Y.newCold hexec (own := own) (C := cls) (index := ik) (n := 6) hown' hk' hins hini'
    (g := F0 m pc ls rest) rfl (by rw [hb]; exact d0) (Nat.le_refl _) (Nat.le_refl _)
  generalize hT1 : (T.setVm vm₁).pushCell { cls := cX, slots := kX.instanceTypes.map defaultValue, vm := .none } = T1 at X₁ st1
  have hcat : (Value.ref T.heap.size).category = 1 := rfl
  have hcellA : T1.heap[T.heap.size]? = some (freshCell cX kX) := by rw [← hT1]; exact State.heap_pushCell_size _ _
  have d3' : decode c.code (pc + 3) = .ok (.dup, 1) := by rw [hb]; exact d3
  have d4' : decode c.code (pc + 4) = .ok (.ldc is, 2) := by rw [hb]; exact d4
  have hstr' : vk_R own is text sa s' := vk_R.warm hW0 hstr
  obtain ⟨U, hsteps, hrun, hend, hW, hsame, ce, hce, hO⟩ := X₁.ctorThrowS hexec htr (own := own) (cls := cls) (names := names) (ic := ic) hown' hcls hnames h (fun x hx => nomatch hx) hfX hkX hcellA (by rw [hhp, hT]; exact Nat.le_refl _) (msg := .ref sa) rfl
    (g := { method := m, pc := pc + 6, locals := ls, stack := .ref sa :: .ref T.heap.size :: .ref T.heap.size :: rest, locked := none }) rfl hsize rfl rfl (rest := rest) rfl
    (by rw [hb]; exact d6) (by rw [hb]; exact d9) hout hRframes (by simp only [List.map_cons, List.sum_cons, hcat]; omega) hlocks
  obtain ⟨f1, f2⟩ := vx_frame hsame
  rw [hhp] at f1 f2
  have hWs : s.WarmedH U.vm := State.WarmedH.trans hW0 hW
  have hcl : s.vm.findClass cls = some ce.cls := by
    have h9 := hO.cls
    rw [hvm] at h9
    exact h9
  have hall : s.sameButNew ({ U with vm := s.vm } : State) locs mc ms := by
    subst hA
    obtain ⟨e1, e2⟩ := hsame
    rw [State.setFrames_setFrames] at e1
    have h2 : (T.setVm s.vm).sameButNew ({ U with vm := s.vm } : State) [] (0 + 1) (0 + 6) := ⟨e1, e2⟩
    have h3 := X.same.trans h2
    rw [List.append_nil] at h3
    exact h3.mono hc hs
  refine ⟨U, ?_, .threw T.heap.size, hrun, hend, Or.inr ⟨T.heap.size, rfl, cls, ce, locs, hx U hWs.alike f1 (fun q hq => f2 q hq (fun z hz => nomatch hz)), hce, hO.vm, hcl, hWs, hall, hf⟩⟩
  refine st1 _ ?_
  show Steps p.tables e below (T1.setTop { method := m, pc := pc + 3, locals := ls, stack := .ref T.heap.size :: rest, locked := none }) _
  jvm_step X₁.here [X₁.here.top, hexec, d3', Value.category]
  exact X₁.ldcString hexec (own := own) (text := text) (index := is) (a := sa) hown' hstr'.1 hstr'.2
    (g := { method := m, pc := pc + 4, locals := ls, stack := .ref T.heap.size :: .ref T.heap.size :: rest, locked := none }) rfl d4' _ hsteps
/-- 'throw new E("text")', the text by a wide index -/
theorem vx_throwSW {cc : ByteArray} {pc : Nat} (hexec : p.tables.exec = Jvm.exec) (hb : c.code = cc) (hl : l.stackTraces = false) {own cls text : String} {names : List String} {ik is ic mc ms sa : Nat} {A : Nat → Prop}
    (hown : s.vm.findClass own = some m.cls) (hcls : Bundle.fit cls = true) (hnames : ∀ n ∈ names, Bundle.fit n = true)
    (hk : (Cond.classLink own ik cls).before args s = true) (hini : (Cond.initialized cls).before args s = true) (hstr : vk_R own is text sa s) (hat : ∀ w ∈ vx_atS own ic cls names, w.before args s = true)
    (hgood : ∀ w ∈ Cond.classLink own ik cls :: Cond.initialized cls :: vx_atS own ic cls names, vx_ot w = true)
    (hU : vx_Zq Bundle.tN "UNASSIGNED_STACK" Bundle.steD A s s.heap) (hN : vx_Zq Bundle.tN "SUPPRESSED_SENTINEL" Bundle.listD A s s.heap) (hS : va_S A s.heap H locs) (hsize : ls.size = c.maxLocals)
    (d0 : decode cc pc = .ok (.new ik, 3)) (d3 : decode cc (pc + 3) = .ok (.dup, 1)) (d4 : decode cc (pc + 4) = .ok (.ldc_w is, 3)) (d7 : decode cc (pc + 7) = .ok (.invokespecial ic, 3)) (d10 : decode cc (pc + 10) = .ok (.athrow, 1))
    (hout : ∀ x ∈ c.exceptionTable.toList, covers x (pc + 10) = false)
    (hRframes : names.length + 3 < R.frames) (hRlocals : (rest.map fun v => v.category).sum + (13 * (names.length + 1) + 43) ≤ R.locals) (hRcells : cells + 1 ≤ R.cells) (hRslots : slots + 6 ≤ R.slots) (hlocks : meth.locks = false)
    (hx : ∀ t : State, s.vm.Alike t.vm → H.size ≤ t.heap.size → (∀ q : Nat, q < H.size → t.heap[q]? = H[q]?) → XC cls s t)
    (hf : ∀ z ∈ locs, free z.base) (hc : cells + 1 ≤ mc) (hs : slots + 6 ≤ ms) :
    W p l e R s m args below meth c H locs cells slots (vx_MQ below Qc XC args s mc ms free) (F0 m pc ls rest) := by
  intro T hT X
  have htr : e.platform.stackTraces = false := (show e.platform.stackTraces = l.stackTraces by rw [X.admits.platform]).trans hl
  have Y := vx_rebase X (R' := { frames := R.frames, locals := R.locals, cells := 1, slots := 6 }) (Nat.le_refl _) (Nat.le_refl _) hRcells hRslots
  obtain ⟨s', hA⟩ : ∃ z, z = (T.setVm s.vm).setFrames (.invoking m args :: below) := ⟨_, rfl⟩
  rw [← hA] at Y
  have hvm : s'.vm = s.vm := by rw [hA]; rfl
  have hhp : s'.heap = H := by rw [hA]; exact hT
  have hW0 : s.WarmedH s'.vm := by rw [hvm]; exact State.WarmedH.refl s
  have hat' : ∀ w ∈ vx_atS own ic cls names, w.before args s' = true := fun w hw => vx_ot_at hW0 hvm.symm (hgood w (List.mem_cons_of_mem _ (List.mem_cons_of_mem _ hw))) (hat w hw)
  have hk' : (Cond.classLink own ik cls).before args s' = true := vx_ot_at hW0 hvm.symm (hgood _ List.mem_cons_self) hk
  have hini' : (Cond.initialized cls).before args s' = true := vx_ot_at hW0 hvm.symm (hgood _ (List.mem_cons_of_mem _ List.mem_cons_self)) hini
  have hU' : vx_Zq Bundle.tN "UNASSIGNED_STACK" Bundle.steD A s' s'.heap := by rw [hhp]; exact vx_Zq.moved hW0.alike (hU.kept hS.2.1)
  have hN' : vx_Zq Bundle.tN "SUPPRESSED_SENTINEL" Bundle.listD A s' s'.heap := by rw [hhp]; exact vx_Zq.moved hW0.alike (hN.kept hS.2.1)
  have h : ∀ w ∈ Bundle.ownAtoms own ic cls names, w.before args s' = true := vx_own hat' (vx_isRefq hU'.1) (vx_isRefq hN'.1) hU'.2.word hN'.2.word
  have hown' : s'.vm.findClass own = some m.cls := by rw [hvm]; exact hown
  have hins : (Cond.instantiable cls 6).before args s' = true := h _ (by simp [Bundle.ownAtoms])
  obtain ⟨vm₁, cX, kX, hfX, hkX, -, -, X₁, st1⟩ := Y.newCold hexec (own := own) (C := cls) (index := ik) (n := 6) hown' hk' hins hini'
    (g := F0 m pc ls rest) rfl (by rw [hb]; exact d0) (Nat.le_refl _) (Nat.le_refl _)
  generalize hT1 : (T.setVm vm₁).pushCell { cls := cX, slots := kX.instanceTypes.map defaultValue, vm := .none } = T1 at X₁ st1
  have hcat : (Value.ref T.heap.size).category = 1 := rfl
  have hcellA : T1.heap[T.heap.size]? = some (freshCell cX kX) := by rw [← hT1]; exact State.heap_pushCell_size _ _
  have d3' : decode c.code (pc + 3) = .ok (.dup, 1) := by rw [hb]; exact d3
  have d4' : decode c.code (pc + 4) = .ok (.ldc_w is, 3) := by rw [hb]; exact d4
  have hstr' : vk_R own is text sa s' := vk_R.warm hW0 hstr
  obtain ⟨U, hsteps, hrun, hend, hW, hsame, ce, hce, hO⟩ := X₁.ctorThrowS hexec htr (own := own) (cls := cls) (names := names) (ic := ic) hown' hcls hnames h (fun x hx => nomatch hx) hfX hkX hcellA (by rw [hhp, hT]; exact Nat.le_refl _) (msg := .ref sa) rfl
    (g := { method := m, pc := pc + 7, locals := ls, stack := .ref sa :: .ref T.heap.size :: .ref T.heap.size :: rest, locked := none }) rfl hsize rfl rfl (rest := rest) rfl
    (by rw [hb]; exact d7) (by rw [hb]; exact d10) hout hRframes (by simp only [List.map_cons, List.sum_cons, hcat]; omega) hlocks
  obtain ⟨f1, f2⟩ := vx_frame hsame
  rw [hhp] at f1 f2
  have hWs : s.WarmedH U.vm := State.WarmedH.trans hW0 hW
  have hcl : s.vm.findClass cls = some ce.cls := by
    have h9 := hO.cls
    rw [hvm] at h9
    exact h9
  have hall : s.sameButNew ({ U with vm := s.vm } : State) locs mc ms := by
    subst hA
    obtain ⟨e1, e2⟩ := hsame
    rw [State.setFrames_setFrames] at e1
    have h2 : (T.setVm s.vm).sameButNew ({ U with vm := s.vm } : State) [] (0 + 1) (0 + 6) := ⟨e1, e2⟩
    have h3 := X.same.trans h2
    rw [List.append_nil] at h3
    exact h3.mono hc hs
  refine ⟨U, ?_, .threw T.heap.size, hrun, hend, Or.inr ⟨T.heap.size, rfl, cls, ce, locs, hx U hWs.alike f1 (fun q hq => f2 q hq (fun z hz => nomatch hz)), hce, hO.vm, hcl, hWs, hall, hf⟩⟩
  refine st1 _ ?_
  show Steps p.tables e below (T1.setTop { method := m, pc := pc + 3, locals := ls, stack := .ref T.heap.size :: rest, locked := none }) _
  jvm_step X₁.here [X₁.here.top, hexec, d3', Value.category]
  exact X₁.ldcStringW hexec (own := own) (text := text) (index := is) (a := sa) hown' hstr'.1 hstr'.2
    (g := { method := m, pc := pc + 4, locals := ls, stack := .ref T.heap.size :: .ref T.heap.size :: rest, locked := none }) rfl d4' _ hsteps
end Ends
section Bodies
variable {l : Launch}
theorem vx_ofW {y : MethodName} {ws ws' : List Cond} {rm : Room} {Pc : Array Value → State → Prop} {Qc : Array Value → State → Outcome → State → Prop} {XC : String → State → State → Prop} {mc ms : Nat} {free : Addr → Prop} {cc : ByteArray} {maxL : Nat} {ret : Option FieldType}
    (hy : plainName y.cls = true) (hw : ws = Cond.code y cc maxL ret :: ws')
    (body : ∀ p e s m args below meth c s₁, BodyLoose p l y (headSpec ws rm) cc maxL ret e s m args below meth c s₁ → c.maxLocals = maxL → (∀ x ∈ c.exceptionTable.toList, False) → Pc args s →
      W p l e (headSpec ws rm).room s m args below meth c s.heap [] 0 0 (vx_MQ below Qc XC args s mc ms free) (entryFrame m args maxL)) : vx_Met l y ws rm Pc Qc XC mc ms free := by
  refine MetFree.of_bodyS (code := cc) (maxLocals := maxL) (ret := ret) hy ?_ ?_
  · intro args s m h hn
    obtain ⟨meth, c, h1, h2, h3, h4, h5, h6, -, -⟩ := Cond.code_spec hn (atoms_spec (ws := ws) h _ (by rw [hw]; exact List.mem_cons_self))
    exact ⟨meth, c, h1, h2, h3, h4, h5, h6⟩
  · intro p e s m args below meth c s₁ B hml hP _
    have hh0 : s₁.heap = s.heap := by rw [B.state]; rfl
    have ht : ∀ x ∈ c.exceptionTable.toList, False := by
      obtain ⟨meth9, c9, h1, h2, -, -, -, -, h7, -⟩ := Cond.code_spec B.named (atoms_spec (ws := ws) B.pre _ (by rw [hw]; exact List.mem_cons_self))
      cases Option.some.inj (h1.symm.trans B.method)
      cases Option.some.inj (h2.symm.trans (Stand.of_body B).code)
      intro x hx
      rw [Array.isEmpty_iff.mp h7] at hx
      cases hx
    obtain ⟨t, a1, o, b1, b2, b3⟩ := body p e s m args below meth c s₁ B hml ht hP s₁ hh0 (Stand.of_body B)
    exact ⟨t, o, a1, b1, b2, b3⟩
/-- the table of a body with handlers -/
theorem vx_table {p : Program} {x y : MethodName} {S : Spec} {cc bytes : ByteArray} {maxL maxL' : Nat} {ret ret' : Option FieldType} {e : Env} {s s₁ : State} {m : MethodId} {args : Array Value} {below : List Frame} {meth : Method} {c : Code} {hh : List (Nat × Nat × Nat × Nat)}
    (B : BodyLoose p l y S cc maxL ret e s m args below meth c s₁) (h : (Cond.codeWith y bytes maxL' ret' hh).before args s = true) : c.exceptionTable.toList = tableOf hh := by
  obtain ⟨m9, meth9, c9, hn9, h1, h2, -, -, h6, -⟩ := Cond.codeWith_spec h
  cases Option.some.inj (hn9.symm.trans B.named)
  cases Option.some.inj (h1.symm.trans B.method)
  cases Option.some.inj (h2.symm.trans (Stand.of_body B).code)
  rw [← h6, table_eq]
end Bodies
end VXA
/-! ===== END ===== -/
/-! ===== BEGIN a static call of a method with an exception table ===== -/
section VXS
variable {p : Program} {l : Launch} {e : Env} {R : Room} {s : State} {m : MethodId} {args : Array Value} {below : List Frame} {meth : Method} {c : Code} {T : State} {H : Heap} {locs : List Loc} {cells slots : Nat}
abbrev vx_CSW (R : Room) (s : State) (args : Array Value) (own : String) (index : Nat) (y : MethodName) (bytes : ByteArray) (maxL : Nat) (ret : Option FieldType) (hh : List (Nat × Nat × Nat × Nat)) (ws : List Cond) (rm : Room) (mc ms n : Nat) : Prop :=
  (rm.cells = mc ∧ rm.slots = ms ∧ rm.frames + 1 ≤ R.frames ∧ 8 + (maxL + 11) + rm.locals ≤ R.locals ∧ (∀ w ∈ ws, ∀ (a' : Array Value) (U : State), s.WarmedH U.vm → w.before a' U = true) ∧ Cond.codeWith y bytes maxL ret hh ∈ ws) ∧
  (Cond.codeWith y bytes maxL ret hh).before args s = true ∧ (Cond.initialized y.cls).before args s = true ∧ (y.cls ≠ "java/lang/invoke/MethodHandle" ∧ y.cls ≠ "java/lang/invoke/VarHandle") ∧
  (∀ sig, parseMethodDescriptor y.desc = some sig → n = sig.parameters.length) ∧ (Cond.methodLink own index y).before args s = true ∧ (Cond.static y).before args s = true
theorem vx_cwSW {own : String} {index maxL mc ms : Nat} {y : MethodName} {bytes : ByteArray} {ret : Option FieldType} {hh : List (Nat × Nat × Nat × Nat)} {Ts ws ws' : List Cond} {rm : Room} (n : Nat) (ht : ∀ w ∈ Ts, w.before args s = true) (hT : GoodIn Ts (va_wsS own index y ws)) (hw : ws = Cond.codeWith y bytes maxL ret hh :: ws') (hrc : rm.cells = mc) (hrs : rm.slots = ms)
    (hd : y.cls ≠ "java/lang/invoke/MethodHandle" ∧ y.cls ≠ "java/lang/invoke/VarHandle" ∧ (parseMethodDescriptor y.desc).map (fun d => d.parameters.length) = some n) (hR : rm.frames + 1 ≤ R.frames ∧ 8 + (maxL + 11) + rm.locals ≤ R.locals) :
    vx_CSW R s args own index y bytes maxL ret hh ws rm mc ms n := by
  have ok : ∀ w ∈ va_wsS own index y ws, w.before args s = true := fun w h => ht w (hT w h).1
  have hG : GoodIn Ts ws := fun w h => hT w (by unfold va_wsS; exact List.mem_append_right _ h)
  have hc : Cond.codeWith y bytes maxL ret hh ∈ ws := by rw [hw]; exact List.mem_cons_self
  refine ⟨⟨hrc, hrs, hR.1, hR.2, pay_in ht hG, hc⟩, ht _ (hG _ hc).1, ok _ (by simp [va_wsS]), ⟨hd.1, hd.2.1⟩, fun sig h => ?_, ok _ (by simp [va_wsS]), ok _ (by simp [va_wsS])⟩
  have h2 := hd.2.2
  rw [h] at h2
  exact (Option.some.inj h2).symm
theorem vx_callSW (X : Stand p l e R s m args below meth c T locs cells slots) (hexec : p.tables.exec = Jvm.exec) {own : String} {index : Nat} {y : MethodName} {bytes : ByteArray} {maxL : Nat} {ret : Option FieldType} {hh : List (Nat × Nat × Nat × Nat)}
    (hown : s.vm.findClass own = some m.cls) (hlink : (Cond.methodLink own index y).before args s = true) (hstat : (Cond.static y).before args s = true) (hinit : (Cond.initialized y.cls).before args s = true)
    (hcode : (Cond.codeWith y bytes maxL ret hh).before args s = true) (hy : y.cls ≠ "java/lang/invoke/MethodHandle" ∧ y.cls ≠ "java/lang/invoke/VarHandle")
    {W9 : Nat} {Pre : Pt → Array Value → Prop} {Post : Pt → Array Value → Option Value → Pt → Prop} (hK : Back l R p e below s args y 3 W9 Pre Post)
    {g : JFrame} (hg : g.method = m) (hsize : g.locals.size = c.maxLocals) {argsL rest : List Value} (hlen : ∀ sig, parseMethodDescriptor y.desc = some sig → argsL.length = sig.parameters.length)
    (hstack : g.stack = argsL.reverse ++ rest) (hW : 2 * g.monitorRoom + (rest.map fun v => v.category).sum ≤ W9) (hdg : decode c.code g.pc = .ok (.invokestatic index, 3))
    (hpre : ∀ vm₁, s.WarmedH vm₁ → Pre ⟨T.setVm vm₁, locs, cells, slots⟩ argsL.toArray) :
    ∃ (v : Option Value) (vm₁ : Vm) (B : Pt), s.WarmedH vm₁ ∧ Stand p l e R s m args below meth c B.U B.locs B.cells B.slots ∧ Post ⟨T.setVm vm₁, locs, cells, slots⟩ argsL.toArray v B ∧
      ∀ target, Steps p.tables e below (B.U.setTop { g with pc := g.pc + 3, stack := v.toList ++ rest }) target → Steps p.tables e below (T.setTop g) target := by
  obtain ⟨mk, methM, cM, hnamed, hmethM, -, -, -, -, -, -, hsigM⟩ := Cond.codeWith_spec hcode
  have hstatic : methM.isStatic = true := Cond.static_spec hnamed hmethM hstat
  obtain ⟨kP, hkP, -⟩ := className_of_methodNamed hnamed
  have hinitP : kP.init = .initialized := Cond.initialized_spec (findClass_of_methodNamed hnamed) hkP hinit
  obtain ⟨vm₁, X₁, hstep₁⟩ := X.invokestatic hexec hown hlink hnamed hmethM hstatic hkP hinitP hy (g := g) hg (argsL := argsL) (rest := rest) (hlen _ hsigM) hstack hdg
  obtain ⟨v, B, X', hpost, hsteps⟩ := hK m meth c ⟨T.setVm vm₁, locs, cells, slots⟩ { g with stack := rest } (.invokestatic index) mk argsL.toArray X₁ hg hsize hdg hW (X₁.named hnamed) (hpre vm₁ X₁.warmed)
  exact ⟨v, vm₁, B, X₁.warmed, X', hpost, fun target h => hstep₁ _ fun acts => by rw [doInvoke_state]; exact hsteps.trans h⟩
theorem vx_runSW {y : MethodName} {bytes cc : ByteArray} {maxL nL mc ms n index : Nat} {ret : Option FieldType} {hh : List (Nat × Nat × Nat × Nat)} {ws : List Cond} {rm : Room} {Pc : Array Value → State → Prop} {Qc : Array Value → State → Outcome → State → Prop} {free : Addr → Prop} {Ts : List Cond} {own : String} {As rest : List Value} {g : JFrame}
    (S : CallFix p m c cc nL s args Ts own) (hM : Met l y ws rm Pc Qc mc ms free) (cw : vx_CSW R s args own index y bytes maxL ret hh ws rm mc ms n) (hp : PreS s H Pc As)
    (hg : g.method = m) (hn : As.length = n) (hsize : g.locals.size = nL) (hstack : g.stack = As.reverse ++ rest) (hW : 2 * g.monitorRoom + (rest.map fun v => v.category).sum ≤ 8) (hdg : decode cc g.pc = .ok (.invokestatic index, 3)) (hf : cells + mc ≤ R.cells ∧ slots + ms ≤ R.slots) :
    va_Run p l e R s m args below meth c H locs cells slots mc ms g rest (Qc As.toArray) (free) := by
  obtain ⟨⟨hrc, hrs, hfr, hlo, hws, hcw⟩, hcode, hini, hy, hlen, hl, hstt⟩ := cw
  have hK : Back l R p e below s args y 3 8 (PreOf R mc ms Pc) (PostOf Qc mc ms free) := va_backW (hh := hh) (bytes := bytes) (maxL := maxL) (ret := ret) hM hp.1 hrc hrs hfr hlo hws hcw (fun a' U hW => word_at hW (Or.inl (by first | rfl | simp [Cond.onTables, Cond.keeps, Cond.steady])) hini)
  obtain ⟨hx, hb, hml, ho, -⟩ := S
  intro T hT X
  obtain ⟨v, vm₁, ⟨U', l2, c2, s2⟩, hW₁, X', ⟨g', mk, t, L, e1, e2, hq, h1, hL, h2, h3⟩, st⟩ := vx_callSW X hx (hh := hh) (bytes := bytes) (maxL := maxL) (ret := ret) ho hl hstt hini hcode hy hK hg (hsize.trans hml.symm) (argsL := As) (rest := rest) (fun sig h => hn.trans (hlen sig h)) hstack hW (by rw [hb]; exact hdg)
    (fun vm₁ hW₁ => ⟨hf.1, hf.2, hp.2 (T.setVm vm₁) hT hW₁⟩)
  dsimp only [Pt.U, Pt.locs, Pt.cells, Pt.slots] at X' e1 e2 h1 h2 h3 st
  subst h1; subst h2; subst h3
  exact ⟨v, (T.setVm vm₁).calling g' mk As.toArray, t, U', L, hT, X', hL, e1, e2, hq, st⟩
/-- not caught here, past rows that name other classes: it goes on to the caller -/
theorem vx_outP {p : Program} {l : Launch} {e : Env} {R : Room} {s : State} {m : MethodId} {args : Array Value} {below : List Frame} {meth : Method} {c : Code} {H : Heap} {locs : List Loc} {cells slots : Nat} {free : Addr → Prop} {ls : Array Slot} {rest : List Value} {Qc : Array Value → State → Outcome → State → Prop} {XC : String → State → State → Prop}
    {pc : Nat} {own E : String} {ce : Cell} {q : Addr} {mc ms : Nat} (hown : s.vm.findClass own = some m.cls) (hlocks : meth.locks = false)
    (hpass : ∀ z ∈ c.exceptionTable.toList, covers z pc = false ∨ (z.catchType ≠ 0 ∧ ∃ nm : String, (Cond.classLink own z.catchType nm).before args s = true ∧ va_Nc E nm s)) (hcell : H[q]? = some ce) (hv : ce.vm = .none) (hcl : s.vm.findClass E = some ce.cls)
    (hx : ∀ t : State, t.heap = H → s.vm.Alike t.vm → XC E s t) (hf : ∀ z ∈ locs, free z.base) (hc : cells ≤ mc) (hs : slots ≤ ms) :
    vx_W p l e R s m args below meth c H locs cells slots (vx_MQ below Qc XC args s mc ms free) (F0 m pc ls rest) q := by
  intro T hT X
  have hpl : e.platform.magicAccessors = ({} : Platform).magicAccessors := by rw [X.admits.platform]
  obtain ⟨vm', hW', X', st⟩ := X.outThrough hlocks q (g := F0 m pc ls rest) rfl rfl rfl (cell := ce) (by rw [hT]; exact hcell) (by rw [hv]; rfl)
    (by obtain ⟨k9, h9, -⟩ := Vm.findClass_spec hcl; exact ⟨k9, h9⟩) (fun z hz => by
      rcases hpass z hz with h | ⟨hz0, nm, hl1, hn1⟩
      · exact Or.inl h
      · obtain ⟨c6, hc6, hcl6⟩ := Cond.classLink_spec hown hl1 e.platform hpl
        obtain ⟨a8, b8, h1, h2, h3⟩ := hn1
        cases Option.some.inj (h1.symm.trans hcl)
        cases Option.some.inj (h2.symm.trans hc6)
        exact Or.inr ⟨hz0, _, hcl6, h3⟩)
  obtain ⟨g₀, hfr⟩ := X'.frames_eq
  have hcell9 : ((T.setVm vm').setFrames (.throwing q :: below)).heap[q]? = some ce := by
    show T.heap[q]? = some ce
    rw [hT]; exact hcell
  have hend : Ended ((T.setVm vm').setFrames (.throwing q :: below)) below (.threw q) := State.frames_setFrames _ (State.cur_lt_of_frames hfr)
  refine ⟨(T.setVm vm').setFrames (.throwing q :: below), ?_, .threw q, X'.here.running, hend, Or.inr ⟨q, rfl, E, ce, locs, hx _ hT (X'.ends _).1.alike, hcell9, hv, hcl, (X'.ends _).1, (X'.ends _).2.mono hc hs, hf⟩⟩
  rw [X.pushThrowing_eq]
  exact st
/-- a thing of a world lies in the heap -/
theorem vx_lt {D : va_G} {cl : List vw_C} {ws : va_W} {H1 : Heap} (h : va_P D cl ws H1) {k : Nat} {q : Nat × va_E} (hk : ws[k]? = some q) : q.1 < H1.size := (h k q hk).lt
end VXS
/-! ===== END ===== -/
/-! ===== BEGIN methods with a table of their own: called by a name, returning or throwing ===== -/
section VXH
/-! vx_backW, vx_callVX, vx_callSX, vx_callVW, vx_runVW, vx_runVX, vx_runSX, vx_ofWH follow the same proofs as their sisters above (Free/Laws.lean, Shelf42/LK1.lean); vx_outP calls Shelf42/NT130.lean (outThrough). -/
section
variable {l : Launch} {R : Room} {p : Program} {e : Env} {below : List Frame} {s : State} {sargs : Array Value} {y : MethodName} {len W9 : Nat}
theorem vx_backW {ws : List Cond} {rm : Room} {Pc : Array Value → State → Prop} {Qc : Array Value → State → Outcome → State → Prop} {XC : String → State → State → Prop} {mc ms : Nat} {free : Addr → Prop} {bytes : ByteArray} {maxL : Nat} {ret : Option FieldType} {hh : List (Nat × Nat × Nat × Nat)}
    (hM : vx_Met l y ws rm Pc Qc XC mc ms free) (hblind : FrameBlind Pc) (hrc : rm.cells = mc) (hrs : rm.slots = ms)
    (hframes : rm.frames + 1 ≤ R.frames) (hlocals : W9 + (maxL + 11) + rm.locals ≤ R.locals)
    (hws : ∀ w ∈ ws, ∀ a' U, s.WarmedH U.vm → w.before a' U = true) (hcode : Cond.codeWith y bytes maxL ret hh ∈ ws) (hinit : ∀ a' U, s.WarmedH U.vm → (Cond.initialized y.cls).before a' U = true) :
    vx_Back l R p e below s sargs y len W9 (PreOf R mc ms Pc) (PostOf Qc mc ms free) (vx_Post XC mc ms free) := by
  intro m meth c A g ig mk a X hg hsize hdg hW hn hp
  have h1 : (headSpec ws rm).pre.before a A.U = true := atoms_intro fun w hw => hws w hw _ _ X.warmed
  have h2 : (Cond.codeWith y bytes maxL ret hh).before a A.U = true := hws _ hcode _ _ X.warmed
  have h3 : (Cond.initialized y.cls).before a A.U = true := hinit _ _ X.warmed
  have h4 : A.cells + (headSpec ws rm).room.cells ≤ R.cells := by rw [show (headSpec ws rm).room.cells = mc from hrc]; exact hp.1
  have h5 : A.slots + (headSpec ws rm).room.slots ≤ R.slots := by rw [show (headSpec ws rm).room.slots = ms from hrs]; exact hp.2.1
  have hPc : Pc a (A.U.calling g mk a) := hblind _ _ _ _ hp.2.2
  obtain ⟨U, Ls, c0, s0⟩ := A
  dsimp only [Pt.U, Pt.locs, Pt.cells, Pt.slots] at h1 h2 h3 h4 h5 X hn hPc ⊢
  obtain ⟨m9, methY, cY, hn9, hmY, hcY, -, hlY, -⟩ := Cond.codeWith_spec h2
  cases Option.some.inj (hn9.symm.trans hn)
  obtain ⟨kY, hkY, -⟩ := className_of_methodNamed hn
  have hinitY : kY.init = .initialized := Cond.initialized_spec (findClass_of_methodNamed hn) hkY h3
  have h : At U g.method c below := by rw [hg]; exact X.here
  have hlocals9 : W9 + (maxL + 11) + (headSpec ws rm).room.locals ≤ R.locals := hlocals
  have happ : (headSpec ws rm).appliesLoose y e.platform (U.calling g mk a) = true :=
    Spec.appliesLoose_calling (g := g) h hdg hn hkY hinitY
      (X.room_calling (g := g) (R' := (headSpec ws rm).room) hsize hmY hcY hframes (by rw [hlY]; omega) h4 h5) h1
  obtain ⟨mid, hmid⟩ := h.above
  have hfr : (U.setTop g).frames = (.java g :: mid) ++ below := by rw [State.frames_setTop' g h.top, hmid]; rfl
  obtain ⟨o, s₂, hsteps, -, hend, hq⟩ := Steps.callFree hM p X.admits X.cas X.clock (acts := []) hfr happ hPc trivial
  have hq' : vx_Q Qc XC mc ms free a (U.calling g mk a) o s₂ := hq
  rw [State.frames_setTop' g h.top] at hend
  obtain ⟨g₀, hg0⟩ := Option.isSome_iff_exists.mp h.top
  obtain ⟨r, hr⟩ := State.topJava?_eq_some.mp hg0
  have hr' : (({ U with heap := s₂.heap, slotsUsed := s₂.slotsUsed } : State).setVm s₂.vm).frames = .java g₀ :: r := hr
  rcases hq' with ⟨hqc, L, hfe, hL⟩ | ⟨q, rfl, E, ce, L, hx, hce, hcv, hcl, hW₂, hsm, hL⟩
  · obtain ⟨⟨v, rfl⟩, hW₂, e2, q2, q3, q4, q5, q6⟩ := id hfe
    have e3 : s₂ = ({ (U.calling g mk a).setFrames s₂.frames with heap := s₂.heap, slotsUsed := s₂.slotsUsed } : State).setVm s₂.vm := by
      have : s₂ = ({ s₂ with vm := (U.calling g mk a).vm } : State).setVm s₂.vm := rfl
      rw [e2] at this
      exact this
    obtain ⟨c₂, i₂, len₂, hc₂, hd₂, hf₂⟩ := hend
    have hW' : U.WarmedH s₂.vm := hW₂
    have hcc : c₂ = c := by
      have h1 : s₂.code? g.method = U.code? g.method := by
        rw [State.code?_eq, State.code?_eq, hW'.alike.method?]
      exact Option.some.inj (hc₂.symm.trans (h1.trans h.code))
    subst hcc
    have hlen : len₂ = len := by rw [hdg] at hd₂; cases hd₂; rfl
    subst hlen
    have hs₂ : s₂ = (({ U with heap := s₂.heap, slotsUsed := s₂.slotsUsed } : State).setVm s₂.vm).setTop { g with pc := g.pc + len₂, stack := v.toList ++ g.stack } := by
      refine e3.trans ?_
      rw [hf₂, State.calling_eq h.top, State.setFrames_setFrames, State.setTop_of_frames _ hr', hr]
      rfl
    have hsame : U.sameButNew ({ U with heap := s₂.heap, slotsUsed := s₂.slotsUsed } : State) L mc ms := by
      refine ⟨?_, q2, q3, q4, q5, q6⟩
      obtain ⟨t, ht, -⟩ := State.frames_cons hr
      show ({ U with heap := s₂.heap, slotsUsed := s₂.slotsUsed } : State) = { U.setFrames U.frames with heap := s₂.heap, slotsUsed := s₂.slotsUsed }
      rw [State.setFrames_self ht]
    subst hg
    refine Or.inl ⟨v, ⟨(({ U with heap := s₂.heap, slotsUsed := s₂.slotsUsed } : State).setVm s₂.vm), Ls ++ L, c0 + mc, s0 + ms⟩,
      ⟨X.admits, X.cas, X.clock, X.frames, X.room, X.hears, X.method, X.code, (X.here.setHeapUsed s₂.heap s₂.slotsUsed).setVm hW'.alike, X.tail, State.WarmedH.trans X.warmed hW', X.limits, X.bytes, X.same.trans (hsame.setVm s.vm)⟩,
      ⟨g, mk, s₂, L, rfl, rfl, hqc, rfl, hL, rfl, rfl⟩, ?_⟩
    show Steps p.tables e below _ ((({ U with heap := s₂.heap, slotsUsed := s₂.slotsUsed } : State).setVm s₂.vm).setTop { g with pc := g.pc + len₂, stack := v.toList ++ g.stack })
    rw [← hs₂]
    exact hsteps
  · obtain ⟨e2, q2, q3, q4, q5, q6⟩ := id hsm
    have e3 : s₂ = ({ (U.calling g mk a).setFrames s₂.frames with heap := s₂.heap, slotsUsed := s₂.slotsUsed } : State).setVm s₂.vm := by
      have : s₂ = ({ s₂ with vm := (U.calling g mk a).vm } : State).setVm s₂.vm := rfl
      rw [e2] at this
      exact this
    have hf₂ : s₂.frames = .throwing q :: .java g :: U.frames.tail := hend
    have hW' : U.WarmedH s₂.vm := hW₂
    have hs₂ : s₂ = ((({ U with heap := s₂.heap, slotsUsed := s₂.slotsUsed } : State).setVm s₂.vm).setTop g).pushFrame (.throwing q) := by
      refine e3.trans ?_
      rw [hf₂, State.calling_eq h.top, State.setFrames_setFrames, State.pushFrame, State.frames_setTop _ hr', State.setTop_of_frames _ hr', State.setFrames_setFrames, hr]
      rfl
    have hsame : U.sameButNew ({ U with heap := s₂.heap, slotsUsed := s₂.slotsUsed } : State) L mc ms := by
      refine ⟨?_, q2, q3, q4, q5, q6⟩
      obtain ⟨t, ht, -⟩ := State.frames_cons hr
      show ({ U with heap := s₂.heap, slotsUsed := s₂.slotsUsed } : State) = { U.setFrames U.frames with heap := s₂.heap, slotsUsed := s₂.slotsUsed }
      rw [State.setFrames_self ht]
    subst hg
    refine Or.inr ⟨q, ⟨(({ U with heap := s₂.heap, slotsUsed := s₂.slotsUsed } : State).setVm s₂.vm), Ls ++ L, c0 + mc, s0 + ms⟩,
      ⟨X.admits, X.cas, X.clock, X.frames, X.room, X.hears, X.method, X.code, (X.here.setHeapUsed s₂.heap s₂.slotsUsed).setVm hW'.alike, X.tail, State.WarmedH.trans X.warmed hW', X.limits, X.bytes, X.same.trans (hsame.setVm s.vm)⟩,
      ⟨g, mk, s₂, L, E, ce, rfl, rfl, hx, hce, hcv, hcl, rfl, hL, rfl, rfl⟩, ?_⟩
    show Steps p.tables e below _ (((({ U with heap := s₂.heap, slotsUsed := s₂.slotsUsed } : State).setVm s₂.vm).setTop g).pushFrame (.throwing q))
    rw [← hs₂]
    exact hsteps
end
variable {p : Program} {l : Launch} {e : Env} {R : Room} {s : State} {m : MethodId} {args : Array Value} {below : List Frame} {meth : Method} {c : Code} {T : State} {H : Heap} {locs : List Loc} {cells slots : Nat}
theorem vx_callVX (X : Stand p l e R s m args below meth c T locs cells slots) (hexec : p.tables.exec = Jvm.exec) {own C : String} {index : Nat} {y : MethodName} {bytes : ByteArray} {maxL : Nat} {ret : Option FieldType} {hh : List (Nat × Nat × Nat × Nat)}
    (hown : s.vm.findClass own = some m.cls) (hlink : (Cond.methodLink own index y).before args s = true) (hinst : (Cond.instanceMethod y).before args s = true) (hsel : (Cond.selects C y y).before args s = true)
    (hcode : (Cond.codeWith y bytes maxL ret hh).before args s = true) (hy : y.cls ≠ "java/lang/invoke/MethodHandle" ∧ y.cls ≠ "java/lang/invoke/VarHandle")
    {W9 : Nat} {Pre : Pt → Array Value → Prop} {Post : Pt → Array Value → Option Value → Pt → Prop} {PostX : Pt → Array Value → Addr → Pt → Prop} (hK : vx_Back l R p e below s args y 3 W9 Pre Post PostX)
    {b : Addr} {cellB : Cell} (hcell : T.heap[b]? = some cellB) (hobj : cellB.vm.isStatics = false) (hcls : s.vm.findClass C = some cellB.cls)
    {g : JFrame} (hg : g.method = m) (hsize : g.locals.size = c.maxLocals) {argsL rest : List Value} (hlen : ∀ sig, parseMethodDescriptor y.desc = some sig → argsL.length = sig.parameters.length)
    (hstack : g.stack = argsL.reverse ++ .ref b :: rest) (hW : 2 * g.monitorRoom + (rest.map fun v => v.category).sum ≤ W9) (hdg : decode c.code g.pc = .ok (.invokevirtual index, 3))
    (hpre : ∀ vm₁, s.WarmedH vm₁ → Pre ⟨T.setVm vm₁, locs, cells, slots⟩ (Value.ref b :: argsL).toArray) :
    (∃ (v : Option Value) (vm₁ : Vm) (B : Pt), s.WarmedH vm₁ ∧ Stand p l e R s m args below meth c B.U B.locs B.cells B.slots ∧ Post ⟨T.setVm vm₁, locs, cells, slots⟩ (Value.ref b :: argsL).toArray v B ∧
      ∀ target, Steps p.tables e below (B.U.setTop { g with pc := g.pc + 3, stack := v.toList ++ rest }) target → Steps p.tables e below (T.setTop g) target) ∨
    (∃ (q : Addr) (vm₁ : Vm) (B : Pt), s.WarmedH vm₁ ∧ Stand p l e R s m args below meth c B.U B.locs B.cells B.slots ∧ PostX ⟨T.setVm vm₁, locs, cells, slots⟩ (Value.ref b :: argsL).toArray q B ∧
      Steps p.tables e below (T.setTop g) ((B.U.setTop { g with stack := rest }).pushFrame (.throwing q))) := by
  obtain ⟨mk, methM, hnamed, hmethM, hstM, habM⟩ := Cond.instanceMethod_spec hinst
  obtain ⟨m8, methM', cM, hn8, hmethM', -, -, -, -, -, -, hsigM⟩ := Cond.codeWith_spec hcode
  cases Option.some.inj (hn8.symm.trans hnamed)
  cases hmethM.symm.trans hmethM'
  obtain ⟨c2, r2, m2, q1, q2, q3, q4, kP, hkP, hkPi⟩ := Cond.selects_spec hsel
  cases hcls.symm.trans q1
  cases (State.methodFound?_of_named hnamed hy).symm.trans q2
  cases hnamed.symm.trans q3
  have hselP : selectMethod e.platform s.vm cellB.cls mk = .method mk := by rw [Launch.admits_selectMethod X.admits]; exact q4
  obtain ⟨vm₁, X₁, hstep₁⟩ := X.invokevirtual hexec hown hlink hnamed hmethM hstM hkP hkPi hy (a := b) (cell := cellB) hcell
    (fun z h => by rw [h] at hobj; cases hobj) hselP hmethM habM hkP hkPi (g := g) hg (argsL := argsL) (rest := rest) (hlen _ hsigM) hstack hdg
  rcases hK m meth c ⟨T.setVm vm₁, locs, cells, slots⟩ { g with stack := rest } (.invokevirtual index) mk (Value.ref b :: argsL).toArray X₁ hg hsize hdg hW (X₁.named hnamed) (hpre vm₁ X₁.warmed) with ⟨v, B, X', hpost, hsteps⟩ | ⟨q, B, X', hpost, hsteps⟩
  · exact Or.inl ⟨v, vm₁, B, X₁.warmed, X', hpost, fun target h => hstep₁ _ fun acts => by rw [doInvoke_state]; exact hsteps.trans h⟩
  · exact Or.inr ⟨q, vm₁, B, X₁.warmed, X', hpost, hstep₁ _ fun acts => by rw [doInvoke_state]; exact hsteps⟩
theorem vx_callSX (X : Stand p l e R s m args below meth c T locs cells slots) (hexec : p.tables.exec = Jvm.exec) {own : String} {index : Nat} {y : MethodName} {bytes : ByteArray} {maxL : Nat} {ret : Option FieldType} {hh : List (Nat × Nat × Nat × Nat)}
    (hown : s.vm.findClass own = some m.cls) (hlink : (Cond.methodLink own index y).before args s = true) (hstat : (Cond.static y).before args s = true) (hinit : (Cond.initialized y.cls).before args s = true)
    (hcode : (Cond.codeWith y bytes maxL ret hh).before args s = true) (hy : y.cls ≠ "java/lang/invoke/MethodHandle" ∧ y.cls ≠ "java/lang/invoke/VarHandle")
    {W9 : Nat} {Pre : Pt → Array Value → Prop} {Post : Pt → Array Value → Option Value → Pt → Prop} {PostX : Pt → Array Value → Addr → Pt → Prop} (hK : vx_Back l R p e below s args y 3 W9 Pre Post PostX)
    {g : JFrame} (hg : g.method = m) (hsize : g.locals.size = c.maxLocals) {argsL rest : List Value} (hlen : ∀ sig, parseMethodDescriptor y.desc = some sig → argsL.length = sig.parameters.length)
    (hstack : g.stack = argsL.reverse ++ rest) (hW : 2 * g.monitorRoom + (rest.map fun v => v.category).sum ≤ W9) (hdg : decode c.code g.pc = .ok (.invokestatic index, 3))
    (hpre : ∀ vm₁, s.WarmedH vm₁ → Pre ⟨T.setVm vm₁, locs, cells, slots⟩ argsL.toArray) :
    (∃ (v : Option Value) (vm₁ : Vm) (B : Pt), s.WarmedH vm₁ ∧ Stand p l e R s m args below meth c B.U B.locs B.cells B.slots ∧ Post ⟨T.setVm vm₁, locs, cells, slots⟩ argsL.toArray v B ∧
      ∀ target, Steps p.tables e below (B.U.setTop { g with pc := g.pc + 3, stack := v.toList ++ rest }) target → Steps p.tables e below (T.setTop g) target) ∨
    (∃ (q : Addr) (vm₁ : Vm) (B : Pt), s.WarmedH vm₁ ∧ Stand p l e R s m args below meth c B.U B.locs B.cells B.slots ∧ PostX ⟨T.setVm vm₁, locs, cells, slots⟩ argsL.toArray q B ∧
      Steps p.tables e below (T.setTop g) ((B.U.setTop { g with stack := rest }).pushFrame (.throwing q))) := by
  obtain ⟨mk, methM, cM, hnamed, hmethM, -, -, -, -, -, -, hsigM⟩ := Cond.codeWith_spec hcode
  have hstatic : methM.isStatic = true := Cond.static_spec hnamed hmethM hstat
  obtain ⟨kP, hkP, -⟩ := className_of_methodNamed hnamed
  have hinitP : kP.init = .initialized := Cond.initialized_spec (findClass_of_methodNamed hnamed) hkP hinit
  obtain ⟨vm₁, X₁, hstep₁⟩ := X.invokestatic hexec hown hlink hnamed hmethM hstatic hkP hinitP hy (g := g) hg (argsL := argsL) (rest := rest) (hlen _ hsigM) hstack hdg
  rcases hK m meth c ⟨T.setVm vm₁, locs, cells, slots⟩ { g with stack := rest } (.invokestatic index) mk argsL.toArray X₁ hg hsize hdg hW (X₁.named hnamed) (hpre vm₁ X₁.warmed) with ⟨v, B, X', hpost, hsteps⟩ | ⟨q, B, X', hpost, hsteps⟩
  · exact Or.inl ⟨v, vm₁, B, X₁.warmed, X', hpost, fun target h => hstep₁ _ fun acts => by rw [doInvoke_state]; exact hsteps.trans h⟩
  · exact Or.inr ⟨q, vm₁, B, X₁.warmed, X', hpost, hstep₁ _ fun acts => by rw [doInvoke_state]; exact hsteps⟩
theorem vx_callVW (X : Stand p l e R s m args below meth c T locs cells slots) (hexec : p.tables.exec = Jvm.exec) {own C : String} {index : Nat} {y : MethodName} {bytes : ByteArray} {maxL : Nat} {ret : Option FieldType} {hh : List (Nat × Nat × Nat × Nat)}
    (hown : s.vm.findClass own = some m.cls) (hlink : (Cond.methodLink own index y).before args s = true) (hinst : (Cond.instanceMethod y).before args s = true) (hsel : (Cond.selects C y y).before args s = true)
    (hcode : (Cond.codeWith y bytes maxL ret hh).before args s = true) (hy : y.cls ≠ "java/lang/invoke/MethodHandle" ∧ y.cls ≠ "java/lang/invoke/VarHandle")
    {W9 : Nat} {Pre : Pt → Array Value → Prop} {Post : Pt → Array Value → Option Value → Pt → Prop} (hK : Back l R p e below s args y 3 W9 Pre Post)
    {b : Addr} {cellB : Cell} (hcell : T.heap[b]? = some cellB) (hobj : cellB.vm.isStatics = false) (hcls : s.vm.findClass C = some cellB.cls)
    {g : JFrame} (hg : g.method = m) (hsize : g.locals.size = c.maxLocals) {argsL rest : List Value} (hlen : ∀ sig, parseMethodDescriptor y.desc = some sig → argsL.length = sig.parameters.length)
    (hstack : g.stack = argsL.reverse ++ .ref b :: rest) (hW : 2 * g.monitorRoom + (rest.map fun v => v.category).sum ≤ W9) (hdg : decode c.code g.pc = .ok (.invokevirtual index, 3))
    (hpre : ∀ vm₁, s.WarmedH vm₁ → Pre ⟨T.setVm vm₁, locs, cells, slots⟩ (Value.ref b :: argsL).toArray) :
    ∃ (v : Option Value) (vm₁ : Vm) (B : Pt), s.WarmedH vm₁ ∧ Stand p l e R s m args below meth c B.U B.locs B.cells B.slots ∧ Post ⟨T.setVm vm₁, locs, cells, slots⟩ (Value.ref b :: argsL).toArray v B ∧
      ∀ target, Steps p.tables e below (B.U.setTop { g with pc := g.pc + 3, stack := v.toList ++ rest }) target → Steps p.tables e below (T.setTop g) target := by
  obtain ⟨mk, methM, hnamed, hmethM, hstM, habM⟩ := Cond.instanceMethod_spec hinst
  obtain ⟨m8, methM', cM, hn8, hmethM', -, -, -, -, -, -, hsigM⟩ := Cond.codeWith_spec hcode
  cases Option.some.inj (hn8.symm.trans hnamed)
  cases hmethM.symm.trans hmethM'
  obtain ⟨c2, r2, m2, q1, q2, q3, q4, kP, hkP, hkPi⟩ := Cond.selects_spec hsel
  cases hcls.symm.trans q1
  cases (State.methodFound?_of_named hnamed hy).symm.trans q2
  cases hnamed.symm.trans q3
  have hselP : selectMethod e.platform s.vm cellB.cls mk = .method mk := by rw [Launch.admits_selectMethod X.admits]; exact q4
  obtain ⟨vm₁, X₁, hstep₁⟩ := X.invokevirtual hexec hown hlink hnamed hmethM hstM hkP hkPi hy (a := b) (cell := cellB) hcell
    (fun z h => by rw [h] at hobj; cases hobj) hselP hmethM habM hkP hkPi (g := g) hg (argsL := argsL) (rest := rest) (hlen _ hsigM) hstack hdg
  obtain ⟨v, B, X', hpost, hsteps⟩ := hK m meth c ⟨T.setVm vm₁, locs, cells, slots⟩ { g with stack := rest } (.invokevirtual index) mk (Value.ref b :: argsL).toArray X₁ hg hsize hdg hW (X₁.named hnamed) (hpre vm₁ X₁.warmed)
  exact ⟨v, vm₁, B, X₁.warmed, X', hpost, fun target h => hstep₁ _ fun acts => by rw [doInvoke_state]; exact hsteps.trans h⟩
abbrev vx_CVW (R : Room) (s : State) (args : Array Value) (own C : String) (index : Nat) (y : MethodName) (bytes : ByteArray) (maxL : Nat) (ret : Option FieldType) (hh : List (Nat × Nat × Nat × Nat)) (ws : List Cond) (rm : Room) (mc ms n : Nat) : Prop :=
  (rm.cells = mc ∧ rm.slots = ms ∧ rm.frames + 1 ≤ R.frames ∧ 8 + (maxL + 11) + rm.locals ≤ R.locals ∧ (∀ w ∈ ws, ∀ (a' : Array Value) (U : State), s.WarmedH U.vm → w.before a' U = true) ∧ Cond.codeWith y bytes maxL ret hh ∈ ws) ∧
  (Cond.codeWith y bytes maxL ret hh).before args s = true ∧ (Cond.initialized y.cls).before args s = true ∧ (y.cls ≠ "java/lang/invoke/MethodHandle" ∧ y.cls ≠ "java/lang/invoke/VarHandle") ∧
  (∀ sig, parseMethodDescriptor y.desc = some sig → n = sig.parameters.length) ∧ (Cond.methodLink own index y).before args s = true ∧ (Cond.instanceMethod y).before args s = true ∧ (Cond.selects C y y).before args s = true
theorem vx_cwVW {own C : String} {index maxL mc ms : Nat} {y : MethodName} {bytes : ByteArray} {ret : Option FieldType} {hh : List (Nat × Nat × Nat × Nat)} {Ts ws ws' : List Cond} {rm : Room} (n : Nat) (ht : ∀ w ∈ Ts, w.before args s = true) (hT : GoodIn Ts (wsV own index C y ws)) (hw : ws = Cond.codeWith y bytes maxL ret hh :: ws') (hrc : rm.cells = mc) (hrs : rm.slots = ms)
    (hd : y.cls = C ∧ y.cls ≠ "java/lang/invoke/MethodHandle" ∧ y.cls ≠ "java/lang/invoke/VarHandle" ∧ (parseMethodDescriptor y.desc).map (fun d => d.parameters.length) = some n) (hR : rm.frames + 1 ≤ R.frames ∧ 8 + (maxL + 11) + rm.locals ≤ R.locals) :
    vx_CVW R s args own C index y bytes maxL ret hh ws rm mc ms n := by
  obtain ⟨hC, hd⟩ := hd
  subst hC
  have ok : ∀ w ∈ wsV own index y.cls y ws, w.before args s = true := fun w h => ht w (hT w h).1
  have hG : GoodIn Ts ws := fun w h => hT w (by unfold wsV; exact List.mem_append_right _ h)
  have hc : Cond.codeWith y bytes maxL ret hh ∈ ws := by rw [hw]; exact List.mem_cons_self
  refine ⟨⟨hrc, hrs, hR.1, hR.2, pay_in ht hG, hc⟩, ht _ (hG _ hc).1, ok _ (by simp [wsV]), ⟨hd.1, hd.2.1⟩, fun sig h => ?_, ok _ (by simp [wsV]), ok _ (by simp [wsV]), ok _ (by simp [wsV])⟩
  have h2 := hd.2.2
  rw [h] at h2
  exact (Option.some.inj h2).symm
theorem vx_runVW {y : MethodName} {bytes cc : ByteArray} {maxL nL mc ms n index : Nat} {ret : Option FieldType} {hh : List (Nat × Nat × Nat × Nat)} {ws : List Cond} {rm : Room} {Pc : Array Value → State → Prop} {Qc : Array Value → State → Outcome → State → Prop} {free : Addr → Prop} {Ts : List Cond} {own C : String} {b : Addr} {As rest : List Value} {g : JFrame}
    (S : CallFix p m c cc nL s args Ts own) (hM : Met l y ws rm Pc Qc mc ms free) (cw : vx_CVW R s args own C index y bytes maxL ret hh ws rm mc ms n) (hp : PreV s H C b Pc As)
    (hg : g.method = m) (hn : As.length = n) (hsize : g.locals.size = nL) (hstack : g.stack = As.reverse ++ .ref b :: rest) (hW : 2 * g.monitorRoom + (rest.map fun v => v.category).sum ≤ 8) (hdg : decode cc g.pc = .ok (.invokevirtual index, 3)) (hf : cells + mc ≤ R.cells ∧ slots + ms ≤ R.slots) :
    va_Run p l e R s m args below meth c H locs cells slots mc ms g rest (Qc (Value.ref b :: As).toArray) free := by
  obtain ⟨⟨hrc, hrs, hfr, hlo, hws, hcw⟩, hcode, hini, hy, hlen, hl, hin, hse⟩ := cw
  have hK : Back l R p e below s args y 3 8 (PreOf R mc ms Pc) (PostOf Qc mc ms free) := va_backW (hh := hh) (bytes := bytes) (maxL := maxL) (ret := ret) hM hp.1 hrc hrs hfr hlo hws hcw (fun a' U hW => word_at hW (Or.inl (by first | rfl | simp [Cond.onTables, Cond.keeps, Cond.steady])) hini)
  obtain ⟨hx, hb, hml, ho, -⟩ := S
  obtain ⟨-, ⟨cellB, hcB, hoB, hclB⟩, hPc⟩ := hp
  intro T hT X
  obtain ⟨v, vm₁, ⟨U', l2, c2, s2⟩, hW₁, X', ⟨g', mk, t, L, e1, e2, hq, h1, hL, h2, h3⟩, st⟩ := vx_callVW X hx (C := C) (hh := hh) (bytes := bytes) (maxL := maxL) (ret := ret) ho hl hin hse hcode hy hK (by rw [hT]; exact hcB) hoB hclB hg (hsize.trans hml.symm) (argsL := As) (rest := rest) (fun sig h => hn.trans (hlen sig h)) hstack hW (by rw [hb]; exact hdg)
    (fun vm₁ hW₁ => ⟨hf.1, hf.2, hPc (T.setVm vm₁) hT hW₁⟩)
  dsimp only [Pt.U, Pt.locs, Pt.cells, Pt.slots] at X' e1 e2 h1 h2 h3 st
  subst h1; subst h2; subst h3
  exact ⟨v, (T.setVm vm₁).calling g' mk (Value.ref b :: As).toArray, t, U', L, hT, X', hL, e1, e2, hq, st⟩
section
variable {y : MethodName} {bytes cc : ByteArray} {maxL nL mc ms n index : Nat} {ret : Option FieldType} {ws : List Cond} {rm : Room} {Pc : Array Value → State → Prop} {Qc : Array Value → State → Outcome → State → Prop} {XC : String → State → State → Prop} {free : Addr → Prop} {Ts : List Cond} {own C : String} {b : Addr} {As rest : List Value} {g : JFrame}
theorem vx_runVX {hh : List (Nat × Nat × Nat × Nat)} (S : CallFix p m c cc nL s args Ts own) (hM : vx_Met l y ws rm Pc Qc XC mc ms free) (cw : vx_CVW R s args own C index y bytes maxL ret hh ws rm mc ms n) (hp : PreV s H C b Pc As)
    (hg : g.method = m) (hn : As.length = n) (hsize : g.locals.size = nL) (hstack : g.stack = As.reverse ++ .ref b :: rest) (hW : 2 * g.monitorRoom + (rest.map fun v => v.category).sum ≤ 8) (hdg : decode cc g.pc = .ok (.invokevirtual index, 3)) (hf : cells + mc ≤ R.cells ∧ slots + ms ≤ R.slots) :
    vx_Run p l e R s m args below meth c H locs cells slots mc ms g rest (Qc (Value.ref b :: As).toArray) XC free := by
  obtain ⟨⟨hrc, hrs, hfr, hlo, hws, hcw⟩, hcode, hini, hy, hlen, hl, hin, hse⟩ := cw
  have hK : vx_Back l R p e below s args y 3 8 (PreOf R mc ms Pc) (PostOf Qc mc ms free) (vx_Post XC mc ms free) := vx_backW (hh := hh) (bytes := bytes) (maxL := maxL) (ret := ret) hM hp.1 hrc hrs hfr hlo hws hcw (fun a' U hW => word_at hW (Or.inl (by first | rfl | simp [Cond.onTables, Cond.keeps, Cond.steady])) hini)
  obtain ⟨hx, hb, hml, ho, -⟩ := S
  obtain ⟨-, ⟨cellB, hcB, hoB, hclB⟩, hPc⟩ := hp
  intro T hT X
  rcases vx_callVX X hx (C := C) (hh := hh) (bytes := bytes) (maxL := maxL) (ret := ret) ho hl hin hse hcode hy hK (by rw [hT]; exact hcB) hoB hclB hg (hsize.trans hml.symm) (argsL := As) (rest := rest) (fun sig h => hn.trans (hlen sig h)) hstack hW (by rw [hb]; exact hdg)
    (fun vm₁ hW₁ => ⟨hf.1, hf.2, hPc (T.setVm vm₁) hT hW₁⟩) with ⟨v, vm₁, ⟨U', l2, c2, s2⟩, hW₁, X', ⟨g', mk, t, L, e1, e2, hq, h1, hL, h2, h3⟩, st⟩ | ⟨q, vm₁, ⟨U', l2, c2, s2⟩, hW₁, X', ⟨g', mk, t, L, E, ce, e1, e2, hq, hce, hcv, hcl, h1, hL, h2, h3⟩, st⟩
  · dsimp only [Pt.U, Pt.locs, Pt.cells, Pt.slots] at X' e1 e2 h1 h2 h3 st
    subst h1; subst h2; subst h3
    exact Or.inl ⟨v, (T.setVm vm₁).calling g' mk (Value.ref b :: As).toArray, t, U', L, hT, X', hL, e1, e2, hq, st⟩
  · dsimp only [Pt.U, Pt.locs, Pt.cells, Pt.slots] at X' e1 e2 h1 h2 h3 st hcl
    subst h1; subst h2; subst h3
    exact Or.inr ⟨q, (T.setVm vm₁).calling g' mk (Value.ref b :: As).toArray, t, U', L, E, ce, hT, X', hL, e1, e2, hq, hce, hcv, vx_cls hW₁ hcl, st⟩
theorem vx_runSX {hh : List (Nat × Nat × Nat × Nat)} (S : CallFix p m c cc nL s args Ts own) (hM : vx_Met l y ws rm Pc Qc XC mc ms free) (cw : vx_CSW R s args own index y bytes maxL ret hh ws rm mc ms n) (hp : PreS s H Pc As)
    (hg : g.method = m) (hn : As.length = n) (hsize : g.locals.size = nL) (hstack : g.stack = As.reverse ++ rest) (hW : 2 * g.monitorRoom + (rest.map fun v => v.category).sum ≤ 8) (hdg : decode cc g.pc = .ok (.invokestatic index, 3)) (hf : cells + mc ≤ R.cells ∧ slots + ms ≤ R.slots) :
    vx_Run p l e R s m args below meth c H locs cells slots mc ms g rest (Qc As.toArray) XC free := by
  obtain ⟨⟨hrc, hrs, hfr, hlo, hws, hcw⟩, hcode, hini, hy, hlen, hl, hstt⟩ := cw
  have hK : vx_Back l R p e below s args y 3 8 (PreOf R mc ms Pc) (PostOf Qc mc ms free) (vx_Post XC mc ms free) := vx_backW (hh := hh) (bytes := bytes) (maxL := maxL) (ret := ret) hM hp.1 hrc hrs hfr hlo hws hcw (fun a' U hW => word_at hW (Or.inl (by first | rfl | simp [Cond.onTables, Cond.keeps, Cond.steady])) hini)
  obtain ⟨hx, hb, hml, ho, -⟩ := S
  intro T hT X
  rcases vx_callSX X hx (hh := hh) (bytes := bytes) (maxL := maxL) (ret := ret) ho hl hstt hini hcode hy hK hg (hsize.trans hml.symm) (argsL := As) (rest := rest) (fun sig h => hn.trans (hlen sig h)) hstack hW (by rw [hb]; exact hdg)
    (fun vm₁ hW₁ => ⟨hf.1, hf.2, hp.2 (T.setVm vm₁) hT hW₁⟩) with ⟨v, vm₁, ⟨U', l2, c2, s2⟩, hW₁, X', ⟨g', mk, t, L, e1, e2, hq, h1, hL, h2, h3⟩, st⟩ | ⟨q, vm₁, ⟨U', l2, c2, s2⟩, hW₁, X', ⟨g', mk, t, L, E, ce, e1, e2, hq, hce, hcv, hcl, h1, hL, h2, h3⟩, st⟩
  · dsimp only [Pt.U, Pt.locs, Pt.cells, Pt.slots] at X' e1 e2 h1 h2 h3 st
    subst h1; subst h2; subst h3
    exact Or.inl ⟨v, (T.setVm vm₁).calling g' mk As.toArray, t, U', L, hT, X', hL, e1, e2, hq, st⟩
  · dsimp only [Pt.U, Pt.locs, Pt.cells, Pt.slots] at X' e1 e2 h1 h2 h3 st hcl
    subst h1; subst h2; subst h3
    exact Or.inr ⟨q, (T.setVm vm₁).calling g' mk As.toArray, t, U', L, E, ce, hT, X', hL, e1, e2, hq, hce, hcv, vx_cls hW₁ hcl, st⟩
end
end VXH
theorem vx_ofWH {l : Launch} {y : MethodName} {ws ws' : List Cond} {rm : Room} {Pc : Array Value → State → Prop} {Qc : Array Value → State → Outcome → State → Prop} {XC : String → State → State → Prop} {mc ms : Nat} {free : Addr → Prop} {cc : ByteArray} {maxL : Nat} {ret : Option FieldType} {hh : List (Nat × Nat × Nat × Nat)}
    (hy : plainName y.cls = true) (hw : ws = Cond.codeWith y cc maxL ret hh :: ws')
    (body : ∀ p e s m args below meth c s₁, BodyLoose p l y (headSpec ws rm) cc maxL ret e s m args below meth c s₁ → c.maxLocals = maxL → Pc args s →
      W p l e (headSpec ws rm).room s m args below meth c s.heap [] 0 0 (vx_MQ below Qc XC args s mc ms free) (entryFrame m args maxL)) : vx_Met l y ws rm Pc Qc XC mc ms free := by
  refine MetFree.of_bodyS (code := cc) (maxLocals := maxL) (ret := ret) hy ?_ ?_
  · intro args s m h hn
    obtain ⟨m9, meth, c, hn9, h1, h2, h3, h4, -, h5, h6, -⟩ := Cond.codeWith_spec (atoms_spec (ws := ws) h _ (by rw [hw]; exact List.mem_cons_self))
    cases hn.symm.trans hn9
    exact ⟨meth, c, h1, h2, h3, h4, h5, h6⟩
  · intro p e s m args below meth c s₁ B hml hP _
    have hh0 : s₁.heap = s.heap := by rw [B.state]; rfl
    obtain ⟨t, a1, o, b1, b2, b3⟩ := body p e s m args below meth c s₁ B hml hP s₁ hh0 (Stand.of_body B)
    exact ⟨t, o, a1, b1, b2, b3⟩
/-! ===== END ===== -/
end
section
/-! ===== BEGIN printed: names, fields, word lists, decode rows ===== -/
def RX0 : String := "ShareMover$Entry"
def TX0 : u_T := fun k => match k with
  | 0 => ("ShareMover$Entry", "who", "I", true)
  | 1 => ("ShareMover$Entry", "allows", "Z", true)
  | 2 => ("ShareMover$Entry", "rights", "I", true)
  | _ => ("ShareMover$Entry", "scope", "I", true)
def tyX0 : Nat → FieldType := fun k => match k with
  | 0 => .int
  | 1 => .boolean
  | 2 => .int
  | _ => .int
abbrev wsX00 : List Cond := u_ws RX0 TX0 4
theorem nmX0 : ∀ a, a < 4 → ∀ b, b < 4 → a ≠ b → (TX0 a).2.1 ≠ (TX0 b).2.1 := by decide +kernel
theorem tyX0_ok : ∀ k, k < 4 → parseFieldDescriptor (TX0 k).2.2.1 = some (tyX0 k) := by decide +kernel
abbrev cX0_init : ByteArray := prog_2_method_1_code
def yX0_init : MethodName := ⟨RX0, "<init>", "(IZII)V"⟩
abbrev cX0_counts : ByteArray := prog_2_method_2_code
def yX0_counts : MethodName := ⟨RX0, "counts", "(Z)Z"⟩
def RX1 : String := "ShareMover$Folder"
def TX1 : u_T := fun k => match k with
  | 0 => ("ShareMover$Folder", "parent", "LShareMover$Folder;", true)
  | 1 => ("ShareMover$Folder", "row", "Ljava/util/ArrayList;", true)
  | 2 => ("ShareMover$Folder", "kept", "[I", true)
  | 3 => ("ShareMover$Folder", "owner", "I", false)
  | 4 => ("ShareMover$Folder", "inherits", "Z", false)
  | 5 => ("ShareMover$Folder", "hasKept", "Z", false)
  | _ => ("ShareMover$Folder", "switched", "Z", false)
def tyX1 : Nat → FieldType := fun k => match k with
  | 0 => .object "ShareMover$Folder"
  | 1 => .object "java/util/ArrayList"
  | 2 => .array .int
  | 3 => .int
  | 4 => .boolean
  | 5 => .boolean
  | _ => .boolean
abbrev wsX10 : List Cond := u_ws RX1 TX1 7
theorem nmX1 : ∀ a, a < 7 → ∀ b, b < 7 → a ≠ b → (TX1 a).2.1 ≠ (TX1 b).2.1 := by decide +kernel
theorem tyX1_ok : ∀ k, k < 7 → parseFieldDescriptor (TX1 k).2.2.1 = some (tyX1 k) := by decide +kernel
abbrev cX1_init : ByteArray := prog_3_method_1_code
def yX1_init : MethodName := ⟨RX1, "<init>", "(LShareMover$Folder;I)V"⟩
abbrev cX1_inheritsFrom : ByteArray := prog_3_method_2_code
def yX1_inheritsFrom : MethodName := ⟨RX1, "inheritsFrom", "()LShareMover$Folder;"⟩
abbrev cX1_levelsInherited : ByteArray := prog_3_method_3_code
def yX1_levelsInherited : MethodName := ⟨RX1, "levelsInherited", "()I"⟩
abbrev cX1_above : ByteArray := prog_3_method_4_code
def yX1_above : MethodName := ⟨RX1, "above", "(I)LShareMover$Folder;"⟩
abbrev cX1_keeps : ByteArray := prog_3_method_5_code
def yX1_keeps : MethodName := ⟨RX1, "keeps", "([I)Z"⟩
abbrev cX1_keep : ByteArray := prog_3_method_6_code
def yX1_keep : MethodName := ⟨RX1, "keep", "([I)Z"⟩
def RX2 : String := "ShareMover$Groups"
def TX2 : u_T := fun k => match k with
  | 0 => ("ShareMover$Groups", "ownPersons", "[I", true)
  | 1 => ("ShareMover$Groups", "ownGroups", "[I", true)
  | _ => ("ShareMover$Groups", "everyone", "[I", true)
def tyX2 : Nat → FieldType := fun k => match k with
  | 0 => .array .int
  | 1 => .array .int
  | _ => .array .int
abbrev wsX20 : List Cond := u_ws RX2 TX2 3
theorem nmX2 : ∀ a, a < 3 → ∀ b, b < 3 → a ≠ b → (TX2 a).2.1 ≠ (TX2 b).2.1 := by decide +kernel
theorem tyX2_ok : ∀ k, k < 3 → parseFieldDescriptor (TX2 k).2.2.1 = some (tyX2 k) := by decide +kernel
abbrev cX2_init : ByteArray := prog_4_method_1_code
def yX2_init : MethodName := ⟨RX2, "<init>", "()V"⟩
abbrev cX2_put : ByteArray := prog_4_method_2_code
def yX2_put : MethodName := ⟨RX2, "put", "(IIZ)Z"⟩
abbrev cX2_toggleInner : ByteArray := prog_4_method_3_code
def yX2_toggleInner : MethodName := ⟨RX2, "toggleInner", "(II)Z"⟩
abbrev cX2_everyoneIn : ByteArray := prog_4_method_4_code
def yX2_everyoneIn : MethodName := ⟨RX2, "everyoneIn", "(I)I"⟩
abbrev cX2_reachedFrom : ByteArray := prog_4_method_5_code
def yX2_reachedFrom : MethodName := ⟨RX2, "reachedFrom", "(I)I"⟩
abbrev cX2_findEveryone : ByteArray := prog_4_method_6_code
def yX2_findEveryone : MethodName := ⟨RX2, "findEveryone", "()V"⟩
def RX3 : String := "ShareMover$Mapping"
def TX3 : u_T := fun k => match k with
  | 0 => ("ShareMover$Mapping", "held", "[I", true)
  | 1 => ("ShareMover$Mapping", "given", "[I", true)
  | 2 => ("ShareMover$Mapping", "group", "I", false)
  | 3 => ("ShareMover$Mapping", "groupBits", "I", false)
  | 4 => ("ShareMover$Mapping", "otherBits", "I", false)
  | 5 => ("ShareMover$Mapping", "namedPersons", "I", false)
  | _ => ("ShareMover$Mapping", "lost", "I", false)
def tyX3 : Nat → FieldType := fun k => match k with
  | 0 => .array .int
  | 1 => .array .int
  | 2 => .int
  | 3 => .int
  | 4 => .int
  | 5 => .int
  | _ => .int
abbrev wsX30 : List Cond := u_ws RX3 TX3 7
theorem nmX3 : ∀ a, a < 7 → ∀ b, b < 7 → a ≠ b → (TX3 a).2.1 ≠ (TX3 b).2.1 := by decide +kernel
theorem tyX3_ok : ∀ k, k < 7 → parseFieldDescriptor (TX3 k).2.2.1 = some (tyX3 k) := by decide +kernel
abbrev cX3_init : ByteArray := prog_5_method_1_code
def yX3_init : MethodName := ⟨RX3, "<init>", "()V"⟩
abbrev cX3_make : ByteArray := prog_5_method_2_code
def yX3_make : MethodName := ⟨RX3, "make", "(III)V"⟩
abbrev cX3_findBits : ByteArray := prog_5_method_3_code
def yX3_findBits : MethodName := ⟨RX3, "findBits", "(II)V"⟩
abbrev cX3_sharedBy : ByteArray := prog_5_method_4_code
def yX3_sharedBy : MethodName := ⟨RX3, "sharedBy", "(I)I"⟩
abbrev cX3_lossOf : ByteArray := prog_5_method_5_code
def yX3_lossOf : MethodName := ⟨RX3, "lossOf", "(I)I"⟩
abbrev cX3_greatestLoser : ByteArray := prog_5_method_6_code
def yX3_greatestLoser : MethodName := ⟨RX3, "greatestLoser", "()I"⟩
def RX4 : String := "ShareMover"
def TX4 : u_T := fun k => match k with
  | 0 => ("ShareMover", "groups", "LShareMover$Groups;", true)
  | 1 => ("ShareMover", "tree", "Ljava/util/ArrayList;", true)
  | _ => ("ShareMover", "mapping", "LShareMover$Mapping;", true)
def tyX4 : Nat → FieldType := fun k => match k with
  | 0 => .object "ShareMover$Groups"
  | 1 => .object "java/util/ArrayList"
  | _ => .object "ShareMover$Mapping"
abbrev wsX40 : List Cond := u_ws RX4 TX4 3
theorem nmX4 : ∀ a, a < 3 → ∀ b, b < 3 → a ≠ b → (TX4 a).2.1 ≠ (TX4 b).2.1 := by decide +kernel
theorem tyX4_ok : ∀ k, k < 3 → parseFieldDescriptor (TX4 k).2.2.1 = some (tyX4 k) := by decide +kernel
abbrev cX4_init : ByteArray := prog_1_method_1_code
def yX4_init : MethodName := ⟨RX4, "<init>", "()V"⟩
abbrev cX4_setMember : ByteArray := prog_1_method_2_code
def yX4_setMember : MethodName := ⟨RX4, "setMember", "(IIZ)Z"⟩
abbrev cX4_nest : ByteArray := prog_1_method_3_code
def yX4_nest : MethodName := ⟨RX4, "nest", "(II)Z"⟩
abbrev cX4_members : ByteArray := prog_1_method_4_code
def yX4_members : MethodName := ⟨RX4, "members", "(I)I"⟩
abbrev cX4_addFolder : ByteArray := prog_1_method_5_code
def yX4_addFolder : MethodName := ⟨RX4, "addFolder", "(II)I"⟩
abbrev cX4_setOwner : ByteArray := prog_1_method_6_code
def yX4_setOwner : MethodName := ⟨RX4, "setOwner", "(II)I"⟩
abbrev cX4_setInherits : ByteArray := prog_1_method_7_code
def yX4_setInherits : MethodName := ⟨RX4, "setInherits", "(IZ)Z"⟩
abbrev cX4_allow : ByteArray := prog_1_method_8_code
def yX4_allow : MethodName := ⟨RX4, "allow", "(IIZII)I"⟩
abbrev cX4_drop : ByteArray := prog_1_method_9_code
def yX4_drop : MethodName := ⟨RX4, "drop", "(II)I"⟩
abbrev cX4_folders : ByteArray := prog_1_method_10_code
def yX4_folders : MethodName := ⟨RX4, "folders", "()I"⟩
abbrev cX4_rights : ByteArray := prog_1_method_11_code
def yX4_rights : MethodName := ⟨RX4, "rights", "(II)I"⟩
abbrev cX4_rightsBackwards : ByteArray := prog_1_method_12_code
def yX4_rightsBackwards : MethodName := ⟨RX4, "rightsBackwards", "(II)I"⟩
abbrev cX4_groupOf : ByteArray := prog_1_method_13_code
def yX4_groupOf : MethodName := ⟨RX4, "groupOf", "(I)I"⟩
abbrev cX4_bits : ByteArray := prog_1_method_14_code
def yX4_bits : MethodName := ⟨RX4, "bits", "(I)I"⟩
abbrev cX4_named : ByteArray := prog_1_method_15_code
def yX4_named : MethodName := ⟨RX4, "named", "(I)I"⟩
abbrev cX4_mapped : ByteArray := prog_1_method_16_code
def yX4_mapped : MethodName := ⟨RX4, "mapped", "(II)I"⟩
abbrev cX4_loss : ByteArray := prog_1_method_17_code
def yX4_loss : MethodName := ⟨RX4, "loss", "(I)I"⟩
abbrev cX4_lossWith : ByteArray := prog_1_method_18_code
def yX4_lossWith : MethodName := ⟨RX4, "lossWith", "(II)I"⟩
abbrev cX4_pass : ByteArray := prog_1_method_19_code
def yX4_pass : MethodName := ⟨RX4, "pass", "()I"⟩
abbrev cX4_isFresh : ByteArray := prog_1_method_20_code
def yX4_isFresh : MethodName := ⟨RX4, "isFresh", "(I)Z"⟩
abbrev cX4_turn : ByteArray := prog_1_method_21_code
def yX4_turn : MethodName := ⟨RX4, "turn", "(I)Z"⟩
abbrev cX4_rightsNow : ByteArray := prog_1_method_22_code
def yX4_rightsNow : MethodName := ⟨RX4, "rightsNow", "(II)I"⟩
abbrev cX4_gainers : ByteArray := prog_1_method_23_code
def yX4_gainers : MethodName := ⟨RX4, "gainers", "(I)I"⟩
abbrev cX4_refuseNoPerson : ByteArray := prog_1_method_24_code
def yX4_refuseNoPerson : MethodName := ⟨RX4, "refuseNoPerson", "(I)V"⟩
abbrev cX4_refuseNoGroup : ByteArray := prog_1_method_25_code
def yX4_refuseNoGroup : MethodName := ⟨RX4, "refuseNoGroup", "(I)V"⟩
abbrev cX4_folderAt : ByteArray := prog_1_method_26_code
def yX4_folderAt : MethodName := ⟨RX4, "folderAt", "(I)LShareMover$Folder;"⟩
abbrev cX4_contains : ByteArray := prog_1_method_27_code
def yX4_contains : MethodName := ⟨RX4, "contains", "(II)Z"⟩
abbrev cX4_isFor : ByteArray := prog_1_method_28_code
def yX4_isFor : MethodName := ⟨RX4, "isFor", "(LShareMover$Entry;I)Z"⟩
abbrev cX4_rightsByEntries : ByteArray := prog_1_method_29_code
def yX4_rightsByEntries : MethodName := ⟨RX4, "rightsByEntries", "(ILShareMover$Folder;)I"⟩
abbrev cX4_rightsByOverruling : ByteArray := prog_1_method_30_code
def yX4_rightsByOverruling : MethodName := ⟨RX4, "rightsByOverruling", "(ILShareMover$Folder;)I"⟩
abbrev cX4_currentRights : ByteArray := prog_1_method_31_code
def yX4_currentRights : MethodName := ⟨RX4, "currentRights", "(ILShareMover$Folder;)I"⟩
abbrev cX4_findHeld : ByteArray := prog_1_method_32_code
def yX4_findHeld : MethodName := ⟨RX4, "findHeld", "(LShareMover$Folder;)V"⟩
abbrev cX4_mapWith : ByteArray := prog_1_method_33_code
def yX4_mapWith : MethodName := ⟨RX4, "mapWith", "(LShareMover$Folder;I)V"⟩
abbrev cX4_mappingOf : ByteArray := prog_1_method_34_code
def yX4_mappingOf : MethodName := ⟨RX4, "mappingOf", "(LShareMover$Folder;)LShareMover$Mapping;"⟩
def RX5 : String := "ShareMoverModel"
def TX5 : u_T := fun k => match k with
  | 0 => ("ShareMoverModel", "persons", "[I", true)
  | 1 => ("ShareMoverModel", "inner", "[I", true)
  | 2 => ("ShareMoverModel", "parent", "[I", true)
  | 3 => ("ShareMoverModel", "owner", "[I", true)
  | 4 => ("ShareMoverModel", "inherits", "[Z", true)
  | 5 => ("ShareMoverModel", "entries", "[I", true)
  | 6 => ("ShareMoverModel", "folders", "I", false)
  | 7 => ("ShareMoverModel", "who", "[I", true)
  | 8 => ("ShareMoverModel", "allows", "[Z", true)
  | 9 => ("ShareMoverModel", "given", "[I", true)
  | 10 => ("ShareMoverModel", "scope", "[I", true)
  | 11 => ("ShareMoverModel", "own", "[I", true)
  | 12 => ("ShareMoverModel", "mapped", "[I", true)
  | 13 => ("ShareMoverModel", "named", "I", false)
  | 14 => ("ShareMoverModel", "groupBits", "I", false)
  | 15 => ("ShareMoverModel", "otherBits", "I", false)
  | 16 => ("ShareMoverModel", "isKept", "[Z", true)
  | 17 => ("ShareMoverModel", "kept", "[I", true)
  | 18 => ("ShareMoverModel", "turned", "[Z", true)
  | _ => ("ShareMoverModel", "thrown", "I", false)
def tyX5 : Nat → FieldType := fun k => match k with
  | 0 => .array .int
  | 1 => .array .int
  | 2 => .array .int
  | 3 => .array .int
  | 4 => .array .boolean
  | 5 => .array .int
  | 6 => .int
  | 7 => .array .int
  | 8 => .array .boolean
  | 9 => .array .int
  | 10 => .array .int
  | 11 => .array .int
  | 12 => .array .int
  | 13 => .int
  | 14 => .int
  | 15 => .int
  | 16 => .array .boolean
  | 17 => .array .int
  | 18 => .array .boolean
  | _ => .int
abbrev wsX50 : List Cond := u_ws RX5 TX5 20
theorem nmX5 : ∀ a, a < 20 → ∀ b, b < 20 → a ≠ b → (TX5 a).2.1 ≠ (TX5 b).2.1 := by decide +kernel
theorem tyX5_ok : ∀ k, k < 20 → parseFieldDescriptor (TX5 k).2.2.1 = some (tyX5 k) := by decide +kernel
abbrev cX5_init : ByteArray := prog_7_method_1_code
def yX5_init : MethodName := ⟨RX5, "<init>", "()V"⟩
abbrev cX5_thrown : ByteArray := prog_7_method_2_code
def yX5_thrown : MethodName := ⟨RX5, "thrown", "()I"⟩
abbrev cX5_in : ByteArray := prog_7_method_3_code
def yX5_in : MethodName := ⟨RX5, "in", "(III)Z"⟩
abbrev cX5_isFine : ByteArray := prog_7_method_4_code
def yX5_isFine : MethodName := ⟨RX5, "isFine", "(I)Z"⟩
abbrev cX5_isGroup : ByteArray := prog_7_method_5_code
def yX5_isGroup : MethodName := ⟨RX5, "isGroup", "(I)Z"⟩
abbrev cX5_isPerson : ByteArray := prog_7_method_6_code
def yX5_isPerson : MethodName := ⟨RX5, "isPerson", "(I)Z"⟩
abbrev cX5_isFolder : ByteArray := prog_7_method_7_code
def yX5_isFolder : MethodName := ⟨RX5, "isFolder", "(I)Z"⟩
abbrev cX5_has : ByteArray := prog_7_method_8_code
def yX5_has : MethodName := ⟨RX5, "has", "(II)Z"⟩
abbrev cX5_size : ByteArray := prog_7_method_9_code
def yX5_size : MethodName := ⟨RX5, "size", "(I)I"⟩
abbrev cX5_groupsIn : ByteArray := prog_7_method_10_code
def yX5_groupsIn : MethodName := ⟨RX5, "groupsIn", "(I)I"⟩
abbrev cX5_membersOf : ByteArray := prog_7_method_11_code
def yX5_membersOf : MethodName := ⟨RX5, "membersOf", "(I)I"⟩
abbrev cX5_setMember : ByteArray := prog_7_method_12_code
def yX5_setMember : MethodName := ⟨RX5, "setMember", "(IIZ)Z"⟩
abbrev cX5_nest : ByteArray := prog_7_method_13_code
def yX5_nest : MethodName := ⟨RX5, "nest", "(II)Z"⟩
abbrev cX5_members : ByteArray := prog_7_method_14_code
def yX5_members : MethodName := ⟨RX5, "members", "(I)I"⟩
abbrev cX5_addFolder : ByteArray := prog_7_method_15_code
def yX5_addFolder : MethodName := ⟨RX5, "addFolder", "(II)I"⟩
abbrev cX5_setOwner : ByteArray := prog_7_method_16_code
def yX5_setOwner : MethodName := ⟨RX5, "setOwner", "(II)I"⟩
abbrev cX5_setInherits : ByteArray := prog_7_method_17_code
def yX5_setInherits : MethodName := ⟨RX5, "setInherits", "(IZ)Z"⟩
abbrev cX5_allow : ByteArray := prog_7_method_18_code
def yX5_allow : MethodName := ⟨RX5, "allow", "(IIZII)I"⟩
abbrev cX5_drop : ByteArray := prog_7_method_19_code
def yX5_drop : MethodName := ⟨RX5, "drop", "(II)I"⟩
abbrev cX5_folders : ByteArray := prog_7_method_20_code
def yX5_folders : MethodName := ⟨RX5, "folders", "()I"⟩
abbrev cX5_isFor : ByteArray := prog_7_method_21_code
def yX5_isFor : MethodName := ⟨RX5, "isFor", "(II)Z"⟩
abbrev cX5_rightsOf : ByteArray := prog_7_method_22_code
def yX5_rightsOf : MethodName := ⟨RX5, "rightsOf", "(II)I"⟩
abbrev cX5_rights : ByteArray := prog_7_method_23_code
def yX5_rights : MethodName := ⟨RX5, "rights", "(II)I"⟩
abbrev cX5_rightsBackwards : ByteArray := prog_7_method_24_code
def yX5_rightsBackwards : MethodName := ⟨RX5, "rightsBackwards", "(II)I"⟩
abbrev cX5_common : ByteArray := prog_7_method_25_code
def yX5_common : MethodName := ⟨RX5, "common", "(I)I"⟩
abbrev cX5_fits : ByteArray := prog_7_method_26_code
def yX5_fits : MethodName := ⟨RX5, "fits", "(II)I"⟩
abbrev cX5_maps : ByteArray := prog_7_method_27_code
def yX5_maps : MethodName := ⟨RX5, "maps", "(II)I"⟩
abbrev cX5_mapsBest : ByteArray := prog_7_method_28_code
def yX5_mapsBest : MethodName := ⟨RX5, "mapsBest", "(I)I"⟩
abbrev cX5_groupOf : ByteArray := prog_7_method_29_code
def yX5_groupOf : MethodName := ⟨RX5, "groupOf", "(I)I"⟩
abbrev cX5_bits : ByteArray := prog_7_method_30_code
def yX5_bits : MethodName := ⟨RX5, "bits", "(I)I"⟩
abbrev cX5_named : ByteArray := prog_7_method_31_code
def yX5_named : MethodName := ⟨RX5, "named", "(I)I"⟩
abbrev cX5_mapped : ByteArray := prog_7_method_32_code
def yX5_mapped : MethodName := ⟨RX5, "mapped", "(II)I"⟩
abbrev cX5_loss : ByteArray := prog_7_method_33_code
def yX5_loss : MethodName := ⟨RX5, "loss", "(I)I"⟩
abbrev cX5_lossWith : ByteArray := prog_7_method_34_code
def yX5_lossWith : MethodName := ⟨RX5, "lossWith", "(II)I"⟩
abbrev cX5_pass : ByteArray := prog_7_method_35_code
def yX5_pass : MethodName := ⟨RX5, "pass", "()I"⟩
abbrev cX5_isFresh : ByteArray := prog_7_method_36_code
def yX5_isFresh : MethodName := ⟨RX5, "isFresh", "(I)Z"⟩
abbrev cX5_turn : ByteArray := prog_7_method_37_code
def yX5_turn : MethodName := ⟨RX5, "turn", "(I)Z"⟩
abbrev cX5_now : ByteArray := prog_7_method_38_code
def yX5_now : MethodName := ⟨RX5, "now", "(II)I"⟩
abbrev cX5_rightsNow : ByteArray := prog_7_method_39_code
def yX5_rightsNow : MethodName := ⟨RX5, "rightsNow", "(II)I"⟩
abbrev cX5_gainers : ByteArray := prog_7_method_40_code
def yX5_gainers : MethodName := ⟨RX5, "gainers", "(I)I"⟩
def RJx145de : String := "java/io/Serializable"
def TJx145de : u_T := fun k => match k with
  | _ => ("", "", "", false)
def tyJx145de : Nat → FieldType := fun k => match k with
  | _ => .int
abbrev wsJx145de0 : List Cond := u_ws RJx145de TJx145de 0
theorem nmJx145de : ∀ a, a < 0 → ∀ b, b < 0 → a ≠ b → (TJx145de a).2.1 ≠ (TJx145de b).2.1 := by decide +kernel
theorem tyJx145de_ok : ∀ k, k < 0 → parseFieldDescriptor (TJx145de k).2.2.1 = some (tyJx145de k) := by decide +kernel
def RJx8e188 : String := "java/lang/Cloneable"
def TJx8e188 : u_T := fun k => match k with
  | _ => ("", "", "", false)
def tyJx8e188 : Nat → FieldType := fun k => match k with
  | _ => .int
abbrev wsJx8e1880 : List Cond := u_ws RJx8e188 TJx8e188 0
theorem nmJx8e188 : ∀ a, a < 0 → ∀ b, b < 0 → a ≠ b → (TJx8e188 a).2.1 ≠ (TJx8e188 b).2.1 := by decide +kernel
theorem tyJx8e188_ok : ∀ k, k < 0 → parseFieldDescriptor (TJx8e188 k).2.2.1 = some (tyJx8e188 k) := by decide +kernel
def RJ6 : String := "java/lang/Integer"
def TJ6 : u_T := fun k => match k with
  | _ => ("", "", "", false)
def tyJ6 : Nat → FieldType := fun k => match k with
  | _ => .int
abbrev wsJ60 : List Cond := u_ws RJ6 TJ6 0
theorem nmJ6 : ∀ a, a < 0 → ∀ b, b < 0 → a ≠ b → (TJ6 a).2.1 ≠ (TJ6 b).2.1 := by decide +kernel
theorem tyJ6_ok : ∀ k, k < 0 → parseFieldDescriptor (TJ6 k).2.2.1 = some (tyJ6 k) := by decide +kernel
abbrev cJ6_bitCount_0f7a4 : ByteArray := prog_14_method_49_code
def yJ6_bitCount_0f7a4 : MethodName := ⟨RJ6, "bitCount", "(I)I"⟩
def RJxab1ab : String := "java/lang/Iterable"
def TJxab1ab : u_T := fun k => match k with
  | _ => ("", "", "", false)
def tyJxab1ab : Nat → FieldType := fun k => match k with
  | _ => .int
abbrev wsJxab1ab0 : List Cond := u_ws RJxab1ab TJxab1ab 0
theorem nmJxab1ab : ∀ a, a < 0 → ∀ b, b < 0 → a ≠ b → (TJxab1ab a).2.1 ≠ (TJxab1ab b).2.1 := by decide +kernel
theorem tyJxab1ab_ok : ∀ k, k < 0 → parseFieldDescriptor (TJxab1ab k).2.2.1 = some (tyJxab1ab k) := by decide +kernel
def RJ9 : String := "java/lang/Math"
def TJ9 : u_T := fun k => match k with
  | _ => ("", "", "", false)
def tyJ9 : Nat → FieldType := fun k => match k with
  | _ => .int
abbrev wsJ90 : List Cond := u_ws RJ9 TJ9 0
theorem nmJ9 : ∀ a, a < 0 → ∀ b, b < 0 → a ≠ b → (TJ9 a).2.1 ≠ (TJ9 b).2.1 := by decide +kernel
theorem tyJ9_ok : ∀ k, k < 0 → parseFieldDescriptor (TJ9 k).2.2.1 = some (tyJ9 k) := by decide +kernel
abbrev cJ9_max_7cf53 : ByteArray := prog_16_method_65_code
def yJ9_max_7cf53 : MethodName := ⟨RJ9, "max", "(II)I"⟩
abbrev cJ9_min_7cf53 : ByteArray := prog_16_method_69_code
def yJ9_min_7cf53 : MethodName := ⟨RJ9, "min", "(II)I"⟩
def RJ0 : String := "java/lang/String"
def TJ0 : u_T := fun k => match k with
  | _ => ("", "", "", false)
def tyJ0 : Nat → FieldType := fun k => match k with
  | _ => .int
abbrev wsJ00 : List Cond := u_ws RJ0 TJ0 0
theorem nmJ0 : ∀ a, a < 0 → ∀ b, b < 0 → a ≠ b → (TJ0 a).2.1 ≠ (TJ0 b).2.1 := by decide +kernel
theorem tyJ0_ok : ∀ k, k < 0 → parseFieldDescriptor (TJ0 k).2.2.1 = some (tyJ0 k) := by decide +kernel
def RJ10 : String := "java/lang/System"
def TJ10 : u_T := fun k => match k with
  | _ => ("", "", "", false)
def tyJ10 : Nat → FieldType := fun k => match k with
  | _ => .int
abbrev wsJ100 : List Cond := u_ws RJ10 TJ10 0
theorem nmJ10 : ∀ a, a < 0 → ∀ b, b < 0 → a ≠ b → (TJ10 a).2.1 ≠ (TJ10 b).2.1 := by decide +kernel
theorem tyJ10_ok : ∀ k, k < 0 → parseFieldDescriptor (TJ10 k).2.2.1 = some (tyJ10 k) := by decide +kernel
def RJxa1e45 : String := "java/util/AbstractCollection"
def TJxa1e45 : u_T := fun k => match k with
  | _ => ("", "", "", false)
def tyJxa1e45 : Nat → FieldType := fun k => match k with
  | _ => .int
abbrev wsJxa1e450 : List Cond := u_ws RJxa1e45 TJxa1e45 0
theorem nmJxa1e45 : ∀ a, a < 0 → ∀ b, b < 0 → a ≠ b → (TJxa1e45 a).2.1 ≠ (TJxa1e45 b).2.1 := by decide +kernel
theorem tyJxa1e45_ok : ∀ k, k < 0 → parseFieldDescriptor (TJxa1e45 k).2.2.1 = some (tyJxa1e45 k) := by decide +kernel
abbrev cJxa1e45_init_da8c8 : ByteArray := prog_21_method_1_code
def yJxa1e45_init_da8c8 : MethodName := ⟨RJxa1e45, "<init>", "()V"⟩
def RJxc12de : String := "java/util/AbstractList"
def TJxc12de : u_T := fun k => match k with
  | _ => ("", "", "", false)
def tyJxc12de : Nat → FieldType := fun k => match k with
  | _ => .int
abbrev wsJxc12de0 : List Cond := u_ws RJxc12de TJxc12de 0
theorem nmJxc12de : ∀ a, a < 0 → ∀ b, b < 0 → a ≠ b → (TJxc12de a).2.1 ≠ (TJxc12de b).2.1 := by decide +kernel
theorem tyJxc12de_ok : ∀ k, k < 0 → parseFieldDescriptor (TJxc12de k).2.2.1 = some (tyJxc12de k) := by decide +kernel
abbrev cJxc12de_init_da8c8 : ByteArray := prog_22_method_1_code
def yJxc12de_init_da8c8 : MethodName := ⟨RJxc12de, "<init>", "()V"⟩
def RJx4a65c : String := "java/util/ArrayList"
def TJx4a65c : u_T := fun k => match k with
  | 0 => ("java/util/AbstractList", "modCount", "I", false)
  | 1 => ("java/util/ArrayList", "elementData", "[Ljava/lang/Object;", false)
  | _ => ("java/util/ArrayList", "size", "I", false)
def tyJx4a65c : Nat → FieldType := fun k => match k with
  | 0 => .int
  | 1 => .array (.object "java/lang/Object")
  | _ => .int
abbrev wsJx4a65c0 : List Cond := u_ws RJx4a65c TJx4a65c 3
theorem nmJx4a65c : ∀ a, a < 3 → ∀ b, b < 3 → a ≠ b → (TJx4a65c a).2.1 ≠ (TJx4a65c b).2.1 := by decide +kernel
theorem tyJx4a65c_ok : ∀ k, k < 3 → parseFieldDescriptor (TJx4a65c k).2.2.1 = some (tyJx4a65c k) := by decide +kernel
abbrev cJx4a65c_init_da8c8 : ByteArray := prog_23_method_2_code
def yJx4a65c_init_da8c8 : MethodName := ⟨RJx4a65c, "<init>", "()V"⟩
abbrev cJx4a65c_grow_92f84 : ByteArray := prog_23_method_6_code
def yJx4a65c_grow_92f84 : MethodName := ⟨RJx4a65c, "grow", "(I)[Ljava/lang/Object;"⟩
abbrev cJx4a65c_grow_d5877 : ByteArray := prog_23_method_7_code
def yJx4a65c_grow_d5877 : MethodName := ⟨RJx4a65c, "grow", "()[Ljava/lang/Object;"⟩
abbrev cJx4a65c_size_8abf5 : ByteArray := prog_23_method_8_code
def yJx4a65c_size_8abf5 : MethodName := ⟨RJx4a65c, "size", "()I"⟩
abbrev cJx4a65c_elementData_915e3 : ByteArray := prog_23_method_18_code
def yJx4a65c_elementData_915e3 : MethodName := ⟨RJx4a65c, "elementData", "(I)Ljava/lang/Object;"⟩
abbrev cJx4a65c_get_915e3 : ByteArray := prog_23_method_20_code
def yJx4a65c_get_915e3 : MethodName := ⟨RJx4a65c, "get", "(I)Ljava/lang/Object;"⟩
abbrev cJx4a65c_add_72be8 : ByteArray := prog_23_method_24_code
def yJx4a65c_add_72be8 : MethodName := ⟨RJx4a65c, "add", "(Ljava/lang/Object;[Ljava/lang/Object;I)V"⟩
abbrev cJx4a65c_add_9ea2d : ByteArray := prog_23_method_25_code
def yJx4a65c_add_9ea2d : MethodName := ⟨RJx4a65c, "add", "(Ljava/lang/Object;)Z"⟩
abbrev cJx4a65c_remove_915e3 : ByteArray := prog_23_method_29_code
def yJx4a65c_remove_915e3 : MethodName := ⟨RJx4a65c, "remove", "(I)Ljava/lang/Object;"⟩
abbrev cJx4a65c_fastRemove_b59b0 : ByteArray := prog_23_method_39_code
def yJx4a65c_fastRemove_b59b0 : MethodName := ⟨RJx4a65c, "fastRemove", "([Ljava/lang/Object;I)V"⟩
def RJ7 : String := "java/util/Arrays"
def TJ7 : u_T := fun k => match k with
  | _ => ("", "", "", false)
def tyJ7 : Nat → FieldType := fun k => match k with
  | _ => .int
abbrev wsJ70 : List Cond := u_ws RJ7 TJ7 0
theorem nmJ7 : ∀ a, a < 0 → ∀ b, b < 0 → a ≠ b → (TJ7 a).2.1 ≠ (TJ7 b).2.1 := by decide +kernel
theorem tyJ7_ok : ∀ k, k < 0 → parseFieldDescriptor (TJ7 k).2.2.1 = some (tyJ7 k) := by decide +kernel
abbrev cJ7_copyOf_1904c : ByteArray := prog_24_method_119_code
def yJ7_copyOf_1904c : MethodName := ⟨RJ7, "copyOf", "([Ljava/lang/Object;I)[Ljava/lang/Object;"⟩
abbrev cJ7_copyOf_6403c : ByteArray := prog_24_method_120_code
def yJ7_copyOf_6403c : MethodName := ⟨RJ7, "copyOf", "([Ljava/lang/Object;ILjava/lang/Class;)[Ljava/lang/Object;"⟩
def RJx5ef63 : String := "java/util/Collection"
def TJx5ef63 : u_T := fun k => match k with
  | _ => ("", "", "", false)
def tyJx5ef63 : Nat → FieldType := fun k => match k with
  | _ => .int
abbrev wsJx5ef630 : List Cond := u_ws RJx5ef63 TJx5ef63 0
theorem nmJx5ef63 : ∀ a, a < 0 → ∀ b, b < 0 → a ≠ b → (TJx5ef63 a).2.1 ≠ (TJx5ef63 b).2.1 := by decide +kernel
theorem tyJx5ef63_ok : ∀ k, k < 0 → parseFieldDescriptor (TJx5ef63 k).2.2.1 = some (tyJx5ef63 k) := by decide +kernel
def RJxbd725 : String := "java/util/List"
def TJxbd725 : u_T := fun k => match k with
  | _ => ("", "", "", false)
def tyJxbd725 : Nat → FieldType := fun k => match k with
  | _ => .int
abbrev wsJxbd7250 : List Cond := u_ws RJxbd725 TJxbd725 0
theorem nmJxbd725 : ∀ a, a < 0 → ∀ b, b < 0 → a ≠ b → (TJxbd725 a).2.1 ≠ (TJxbd725 b).2.1 := by decide +kernel
theorem tyJxbd725_ok : ∀ k, k < 0 → parseFieldDescriptor (TJxbd725 k).2.2.1 = some (tyJxbd725 k) := by decide +kernel
def RJ15 : String := "java/util/Objects"
def TJ15 : u_T := fun k => match k with
  | _ => ("", "", "", false)
def tyJ15 : Nat → FieldType := fun k => match k with
  | _ => .int
abbrev wsJ150 : List Cond := u_ws RJ15 TJ15 0
theorem nmJ15 : ∀ a, a < 0 → ∀ b, b < 0 → a ≠ b → (TJ15 a).2.1 ≠ (TJ15 b).2.1 := by decide +kernel
theorem tyJ15_ok : ∀ k, k < 0 → parseFieldDescriptor (TJ15 k).2.2.1 = some (tyJ15 k) := by decide +kernel
abbrev cJ15_checkIndex_7cf53 : ByteArray := prog_27_method_17_code
def yJ15_checkIndex_7cf53 : MethodName := ⟨RJ15, "checkIndex", "(II)I"⟩
def RJxf0a74 : String := "java/util/RandomAccess"
def TJxf0a74 : u_T := fun k => match k with
  | _ => ("", "", "", false)
def tyJxf0a74 : Nat → FieldType := fun k => match k with
  | _ => .int
abbrev wsJxf0a740 : List Cond := u_ws RJxf0a74 TJxf0a74 0
theorem nmJxf0a74 : ∀ a, a < 0 → ∀ b, b < 0 → a ≠ b → (TJxf0a74 a).2.1 ≠ (TJxf0a74 b).2.1 := by decide +kernel
theorem tyJxf0a74_ok : ∀ k, k < 0 → parseFieldDescriptor (TJxf0a74 k).2.2.1 = some (tyJxf0a74 k) := by decide +kernel
def RJxa66e6 : String := "java/util/SequencedCollection"
def TJxa66e6 : u_T := fun k => match k with
  | _ => ("", "", "", false)
def tyJxa66e6 : Nat → FieldType := fun k => match k with
  | _ => .int
abbrev wsJxa66e60 : List Cond := u_ws RJxa66e6 TJxa66e6 0
theorem nmJxa66e6 : ∀ a, a < 0 → ∀ b, b < 0 → a ≠ b → (TJxa66e6 a).2.1 ≠ (TJxa66e6 b).2.1 := by decide +kernel
theorem tyJxa66e6_ok : ∀ k, k < 0 → parseFieldDescriptor (TJxa66e6 k).2.2.1 = some (tyJxa66e6 k) := by decide +kernel
def RJ8 : String := "jdk/internal/util/ArraysSupport"
def TJ8 : u_T := fun k => match k with
  | _ => ("", "", "", false)
def tyJ8 : Nat → FieldType := fun k => match k with
  | _ => .int
abbrev wsJ80 : List Cond := u_ws RJ8 TJ8 0
theorem nmJ8 : ∀ a, a < 0 → ∀ b, b < 0 → a ≠ b → (TJ8 a).2.1 ≠ (TJ8 b).2.1 := by decide +kernel
theorem tyJ8_ok : ∀ k, k < 0 → parseFieldDescriptor (TJ8 k).2.2.1 = some (tyJ8 k) := by decide +kernel
abbrev cJ8_newLength_cabcc : ByteArray := prog_30_method_27_code
def yJ8_newLength_cabcc : MethodName := ⟨RJ8, "newLength", "(III)I"⟩
abbrev cJ8_hugeLength_7cf53 : ByteArray := prog_30_method_28_code
def yJ8_hugeLength_7cf53 : MethodName := ⟨RJ8, "hugeLength", "(II)I"⟩
def RJ3 : String := "jdk/internal/util/Preconditions"
def TJ3 : u_T := fun k => match k with
  | _ => ("", "", "", false)
def tyJ3 : Nat → FieldType := fun k => match k with
  | _ => .int
abbrev wsJ30 : List Cond := u_ws RJ3 TJ3 0
theorem nmJ3 : ∀ a, a < 0 → ∀ b, b < 0 → a ≠ b → (TJ3 a).2.1 ≠ (TJ3 b).2.1 := by decide +kernel
theorem tyJ3_ok : ∀ k, k < 0 → parseFieldDescriptor (TJ3 k).2.2.1 = some (tyJ3 k) := by decide +kernel
abbrev cJ3_checkIndex_8e157 : ByteArray := prog_31_method_11_code
def yJ3_checkIndex_8e157 : MethodName := ⟨RJ3, "checkIndex", "(IILjava/util/function/BiFunction;)I"⟩
def RL : String := "ShareMoverLaw"
abbrev cL_setMember : ByteArray := method_3_code
def yL_setMember : MethodName := ⟨RL, "setMember", "(LShareMover;IIZ[J)I"⟩
abbrev cL_nest : ByteArray := method_4_code
def yL_nest : MethodName := ⟨RL, "nest", "(LShareMover;II[J)I"⟩
abbrev cL_members : ByteArray := method_5_code
def yL_members : MethodName := ⟨RL, "members", "(LShareMover;I[J)I"⟩
abbrev cL_addFolder : ByteArray := method_6_code
def yL_addFolder : MethodName := ⟨RL, "addFolder", "(LShareMover;II[J)I"⟩
abbrev cL_setOwner : ByteArray := method_7_code
def yL_setOwner : MethodName := ⟨RL, "setOwner", "(LShareMover;II[J)I"⟩
abbrev cL_setInherits : ByteArray := method_8_code
def yL_setInherits : MethodName := ⟨RL, "setInherits", "(LShareMover;IZ[J)I"⟩
abbrev cL_allow : ByteArray := method_9_code
def yL_allow : MethodName := ⟨RL, "allow", "(LShareMover;IIZII[J)I"⟩
abbrev cL_drop : ByteArray := method_10_code
def yL_drop : MethodName := ⟨RL, "drop", "(LShareMover;II[J)I"⟩
abbrev cL_rights : ByteArray := method_11_code
def yL_rights : MethodName := ⟨RL, "rights", "(LShareMover;II[J)I"⟩
abbrev cL_rightsBackwards : ByteArray := method_12_code
def yL_rightsBackwards : MethodName := ⟨RL, "rightsBackwards", "(LShareMover;II[J)I"⟩
abbrev cL_groupOf : ByteArray := method_13_code
def yL_groupOf : MethodName := ⟨RL, "groupOf", "(LShareMover;I[J)I"⟩
abbrev cL_bits : ByteArray := method_14_code
def yL_bits : MethodName := ⟨RL, "bits", "(LShareMover;I[J)I"⟩
abbrev cL_named : ByteArray := method_15_code
def yL_named : MethodName := ⟨RL, "named", "(LShareMover;I[J)I"⟩
abbrev cL_mapped : ByteArray := method_16_code
def yL_mapped : MethodName := ⟨RL, "mapped", "(LShareMover;II[J)I"⟩
abbrev cL_loss : ByteArray := method_17_code
def yL_loss : MethodName := ⟨RL, "loss", "(LShareMover;I[J)I"⟩
abbrev cL_lossWith : ByteArray := method_18_code
def yL_lossWith : MethodName := ⟨RL, "lossWith", "(LShareMover;II[J)I"⟩
abbrev cL_isFresh : ByteArray := method_19_code
def yL_isFresh : MethodName := ⟨RL, "isFresh", "(LShareMover;I[J)I"⟩
abbrev cL_turn : ByteArray := method_20_code
def yL_turn : MethodName := ⟨RL, "turn", "(LShareMover;I[J)I"⟩
abbrev cL_rightsNow : ByteArray := method_21_code
def yL_rightsNow : MethodName := ⟨RL, "rightsNow", "(LShareMover;II[J)I"⟩
abbrev cL_gainers : ByteArray := method_22_code
def yL_gainers : MethodName := ⟨RL, "gainers", "(LShareMover;I[J)I"⟩
abbrev cL_law : ByteArray := code
def yL_law : MethodName := ⟨RL, "law", "([I)Z"⟩
def wsX0_init : List Cond := .code yX0_init cX0_init 5 none :: ([.methodLink RX0 3 objectInit, .instanceMethod objectInit, .code objectInit ⟨#[0xb1]⟩ 1 none, .fieldLink RX0 9 "ShareMover$Entry" "who" "I", .fieldLink RX0 15 "ShareMover$Entry" "allows" "Z", .fieldLink RX0 19 "ShareMover$Entry" "rights" "I", .fieldLink RX0 22 "ShareMover$Entry" "scope" "I"] ++ wsX00)
def wsX0_counts : List Cond := .code yX0_counts cX0_counts 2 (some .boolean) :: ([.fieldLink RX0 22 "ShareMover$Entry" "scope" "I"] ++ wsX00)
def wsJxa1e45_init_da8c8 : List Cond := .code yJxa1e45_init_da8c8 cJxa1e45_init_da8c8 1 none :: ([.methodLink RJxa1e45 1 objectInit, .instanceMethod objectInit, .code objectInit ⟨#[0xb1]⟩ 1 none])
def wsJxc12de_init_da8c8 : List Cond := .code yJxc12de_init_da8c8 cJxc12de_init_da8c8 1 none :: ([.fieldLink RJxc12de 7 "java/util/AbstractList" "modCount" "I", .methodLink RJxc12de 1 yJxa1e45_init_da8c8, .instanceMethod yJxa1e45_init_da8c8, .initialized RJxa1e45, .code yJxa1e45_init_da8c8 cJxa1e45_init_da8c8 1 none, .methodLink RJxa1e45 1 objectInit, .instanceMethod objectInit, .code objectInit ⟨#[0xb1]⟩ 1 none] ++ wsJx4a65c0)
def wsJx4a65c_init_da8c8 : List Cond := .code yJx4a65c_init_da8c8 cJx4a65c_init_da8c8 1 none :: ([.fieldLink RJx4a65c 39 "java/util/ArrayList" "DEFAULTCAPACITY_EMPTY_ELEMENTDATA" "[Ljava/lang/Object;", .fieldLink RJx4a65c 9 "java/util/ArrayList" "elementData" "[Ljava/lang/Object;", .methodLink RJx4a65c 1 yJxc12de_init_da8c8, .instanceMethod yJxc12de_init_da8c8, .initialized RJxc12de, .code yJxc12de_init_da8c8 cJxc12de_init_da8c8 1 none, .fieldLink RJxc12de 7 "java/util/AbstractList" "modCount" "I", .methodLink RJxc12de 1 yJxa1e45_init_da8c8, .instanceMethod yJxa1e45_init_da8c8, .initialized RJxa1e45, .code yJxa1e45_init_da8c8 cJxa1e45_init_da8c8 1 none, .methodLink RJxa1e45 1 objectInit, .instanceMethod objectInit, .code objectInit ⟨#[0xb1]⟩ 1 none] ++ wsJx4a65c0)
def wsX1_init_r1 : List Cond := [Cond.methodLink RX1 3 objectInit, Cond.instanceMethod objectInit, Cond.code objectInit ⟨#[0xb1]⟩ 1 none, Cond.classLink RX1 9 RJx4a65c, Cond.instantiable RJx4a65c 3, Cond.initialized RJx4a65c, Cond.fieldLink RX1 12 "ShareMover$Folder" "row" "Ljava/util/ArrayList;", Cond.arrayClass .int, Cond.fieldLink RX1 18 "ShareMover$Folder" "kept" "[I", Cond.fieldLink RX1 22 "ShareMover$Folder" "inherits" "Z", Cond.fieldLink RX1 26 "ShareMover$Folder" "hasKept" "Z", Cond.fieldLink RX1 29 "ShareMover$Folder" "switched" "Z", Cond.fieldLink RX1 32 "ShareMover$Folder" "parent" "LShareMover$Folder;", Cond.fieldLink RX1 36 "ShareMover$Folder" "owner" "I", Cond.methodLink RX1 11 yJx4a65c_init_da8c8, Cond.instanceMethod yJx4a65c_init_da8c8, Cond.code yJx4a65c_init_da8c8 cJx4a65c_init_da8c8 1 none, Cond.fieldLink RJx4a65c 39 "java/util/ArrayList" "DEFAULTCAPACITY_EMPTY_ELEMENTDATA" "[Ljava/lang/Object;", Cond.fieldLink RJx4a65c 9 "java/util/ArrayList" "elementData" "[Ljava/lang/Object;", Cond.methodLink RJx4a65c 1 yJxc12de_init_da8c8, Cond.instanceMethod yJxc12de_init_da8c8, Cond.initialized RJxc12de, Cond.code yJxc12de_init_da8c8 cJxc12de_init_da8c8 1 none, Cond.fieldLink RJxc12de 7 "java/util/AbstractList" "modCount" "I"]
def wsX1_init_r2 : List Cond := [Cond.methodLink RJxc12de 1 yJxa1e45_init_da8c8, Cond.instanceMethod yJxa1e45_init_da8c8, Cond.initialized RJxa1e45, Cond.code yJxa1e45_init_da8c8 cJxa1e45_init_da8c8 1 none, Cond.methodLink RJxa1e45 1 objectInit]
def wsX1_init : List Cond := .code yX1_init cX1_init 3 none :: ((wsX1_init_r1 ++ wsX1_init_r2) ++ wsJx4a65c0 ++ wsX10)
def wsX1_inheritsFrom : List Cond := .code yX1_inheritsFrom cX1_inheritsFrom 1 (some (.object "ShareMover$Folder")) :: ([.fieldLink RX1 22 "ShareMover$Folder" "inherits" "Z", .fieldLink RX1 32 "ShareMover$Folder" "parent" "LShareMover$Folder;"] ++ wsX10)
def wsX1_levelsInherited : List Cond := .code yX1_levelsInherited cX1_levelsInherited 3 (some .int) :: ([.methodLink RX1 40 yX1_inheritsFrom, .instanceMethod yX1_inheritsFrom, .selects RX1 yX1_inheritsFrom yX1_inheritsFrom, .initialized RX1, .code yX1_inheritsFrom cX1_inheritsFrom 1 (some (.object "ShareMover$Folder")), .fieldLink RX1 22 "ShareMover$Folder" "inherits" "Z", .fieldLink RX1 32 "ShareMover$Folder" "parent" "LShareMover$Folder;"] ++ wsX10)
def wsX1_above : List Cond := .code yX1_above cX1_above 4 (some (.object "ShareMover$Folder")) :: ([.fieldLink RX1 32 "ShareMover$Folder" "parent" "LShareMover$Folder;"] ++ wsX10)
def wsX1_keeps : List Cond := .code yX1_keeps cX1_keeps 3 (some .boolean) :: ([.fieldLink RX1 26 "ShareMover$Folder" "hasKept" "Z", .fieldLink RX1 18 "ShareMover$Folder" "kept" "[I"] ++ wsX10)
def wsX1_keep : List Cond := .code yX1_keep cX1_keep 3 (some .boolean) :: ([.fieldLink RX1 18 "ShareMover$Folder" "kept" "[I", .methodLink RX1 48 arraycopyName, .native arraycopyName, .static arraycopyName, .initialized "java/lang/System", .fieldLink RX1 26 "ShareMover$Folder" "hasKept" "Z", .methodLink RX1 44 yX1_keeps, .instanceMethod yX1_keeps, .selects RX1 yX1_keeps yX1_keeps, .initialized RX1, .code yX1_keeps cX1_keeps 3 (some .boolean)] ++ wsX10)
def wsX2_init : List Cond := .code yX2_init cX2_init 1 none :: ([.methodLink RX2 3 objectInit, .instanceMethod objectInit, .code objectInit ⟨#[0xb1]⟩ 1 none, .arrayClass .int, .fieldLink RX2 9 "ShareMover$Groups" "ownPersons" "[I", .fieldLink RX2 15 "ShareMover$Groups" "ownGroups" "[I", .fieldLink RX2 18 "ShareMover$Groups" "everyone" "[I"] ++ wsX20)
def wsX4_contains : List Cond := .code yX4_contains cX4_contains 2 (some .boolean) :: ([])
def wsX2_reachedFrom : List Cond := .code yX2_reachedFrom cX2_reachedFrom 5 (some .int) :: ([.fieldLink RX2 15 "ShareMover$Groups" "ownGroups" "[I", .static yX4_contains, .initialized RX4, .code yX4_contains cX4_contains 2 (some .boolean)] ++ wsX20)
def wsX2_findEveryone : List Cond := .code yX2_findEveryone cX2_findEveryone 5 none :: ([.fieldLink RX2 9 "ShareMover$Groups" "ownPersons" "[I", .fieldLink RX2 18 "ShareMover$Groups" "everyone" "[I", .methodLink RX2 28 yX2_reachedFrom, .instanceMethod yX2_reachedFrom, .selects RX2 yX2_reachedFrom yX2_reachedFrom, .initialized RX2, .code yX2_reachedFrom cX2_reachedFrom 5 (some .int), .fieldLink RX2 15 "ShareMover$Groups" "ownGroups" "[I", .static yX4_contains, .initialized RX4, .code yX4_contains cX4_contains 2 (some .boolean)] ++ wsX20)
def wsX2_put : List Cond := .code yX2_put cX2_put 5 (some .boolean) :: ([.fieldLink RX2 9 "ShareMover$Groups" "ownPersons" "[I", .static yX4_contains, .initialized RX4, .code yX4_contains cX4_contains 2 (some .boolean), .methodLink RX2 25 yX2_findEveryone, .instanceMethod yX2_findEveryone, .selects RX2 yX2_findEveryone yX2_findEveryone, .initialized RX2, .code yX2_findEveryone cX2_findEveryone 5 none, .fieldLink RX2 18 "ShareMover$Groups" "everyone" "[I", .methodLink RX2 28 yX2_reachedFrom, .instanceMethod yX2_reachedFrom, .selects RX2 yX2_reachedFrom yX2_reachedFrom, .code yX2_reachedFrom cX2_reachedFrom 5 (some .int), .fieldLink RX2 15 "ShareMover$Groups" "ownGroups" "[I"] ++ wsX20)
def wsX2_toggleInner : List Cond := .code yX2_toggleInner cX2_toggleInner 3 (some .boolean) :: ([.fieldLink RX2 15 "ShareMover$Groups" "ownGroups" "[I", .methodLink RX2 25 yX2_findEveryone, .instanceMethod yX2_findEveryone, .selects RX2 yX2_findEveryone yX2_findEveryone, .initialized RX2, .code yX2_findEveryone cX2_findEveryone 5 none, .fieldLink RX2 9 "ShareMover$Groups" "ownPersons" "[I", .fieldLink RX2 18 "ShareMover$Groups" "everyone" "[I", .methodLink RX2 28 yX2_reachedFrom, .instanceMethod yX2_reachedFrom, .selects RX2 yX2_reachedFrom yX2_reachedFrom, .code yX2_reachedFrom cX2_reachedFrom 5 (some .int), .static yX4_contains, .initialized RX4, .code yX4_contains cX4_contains 2 (some .boolean)] ++ wsX20)
def wsX2_everyoneIn : List Cond := .code yX2_everyoneIn cX2_everyoneIn 2 (some .int) :: ([.fieldLink RX2 18 "ShareMover$Groups" "everyone" "[I"] ++ wsX20)
def wsX3_init : List Cond := .code yX3_init cX3_init 1 none :: ([.methodLink RX3 3 objectInit, .instanceMethod objectInit, .code objectInit ⟨#[0xb1]⟩ 1 none, .arrayClass .int, .fieldLink RX3 9 "ShareMover$Mapping" "held" "[I", .fieldLink RX3 15 "ShareMover$Mapping" "given" "[I", .fieldLink RX3 18 "ShareMover$Mapping" "group" "I", .fieldLink RX3 22 "ShareMover$Mapping" "groupBits" "I", .fieldLink RX3 25 "ShareMover$Mapping" "otherBits" "I", .fieldLink RX3 28 "ShareMover$Mapping" "namedPersons" "I", .fieldLink RX3 31 "ShareMover$Mapping" "lost" "I"] ++ wsX30)
def wsX3_sharedBy : List Cond := .code yX3_sharedBy cX3_sharedBy 4 (some .int) :: ([.fieldLink RX3 9 "ShareMover$Mapping" "held" "[I", .static yX4_contains, .initialized RX4, .code yX4_contains cX4_contains 2 (some .boolean)] ++ wsX30)
def wsJ6_bitCount_0f7a4 : List Cond := .code yJ6_bitCount_0f7a4 cJ6_bitCount_0f7a4 1 (some .int) :: ([.constant RJ6 265 (1431655765), .constant RJ6 266 (858993459), .constant RJ6 267 (252645135)])
def wsX3_lossOf : List Cond := .code yX3_lossOf cX3_lossOf 2 (some .int) :: ([.fieldLink RX3 9 "ShareMover$Mapping" "held" "[I", .fieldLink RX3 15 "ShareMover$Mapping" "given" "[I", .methodLink RX3 53 yJ6_bitCount_0f7a4, .static yJ6_bitCount_0f7a4, .initialized RJ6, .code yJ6_bitCount_0f7a4 cJ6_bitCount_0f7a4 1 (some .int), .constant RJ6 265 (1431655765), .constant RJ6 266 (858993459), .constant RJ6 267 (252645135)] ++ wsX30)
def wsX3_findBits_r1 : List Cond := [Cond.fieldLink RX3 28 "ShareMover$Mapping" "namedPersons" "I", Cond.fieldLink RX3 22 "ShareMover$Mapping" "groupBits" "I", Cond.fieldLink RX3 25 "ShareMover$Mapping" "otherBits" "I", Cond.fieldLink RX3 31 "ShareMover$Mapping" "lost" "I", Cond.fieldLink RX3 15 "ShareMover$Mapping" "given" "[I", Cond.fieldLink RX3 9 "ShareMover$Mapping" "held" "[I", Cond.methodLink RX3 42 yX3_sharedBy, Cond.instanceMethod yX3_sharedBy, Cond.selects RX3 yX3_sharedBy yX3_sharedBy, Cond.initialized RX3, Cond.code yX3_sharedBy cX3_sharedBy 4 (some .int), Cond.static yX4_contains, Cond.initialized RX4, Cond.code yX4_contains cX4_contains 2 (some .boolean), Cond.methodLink RX3 50 yX3_lossOf, Cond.instanceMethod yX3_lossOf, Cond.selects RX3 yX3_lossOf yX3_lossOf, Cond.code yX3_lossOf cX3_lossOf 2 (some .int), Cond.methodLink RX3 53 yJ6_bitCount_0f7a4, Cond.static yJ6_bitCount_0f7a4, Cond.initialized RJ6, Cond.code yJ6_bitCount_0f7a4 cJ6_bitCount_0f7a4 1 (some .int), Cond.constant RJ6 265 (1431655765), Cond.constant RJ6 266 (858993459)]
def wsX3_findBits_r2 : List Cond := [Cond.constant RJ6 267 (252645135)]
def wsX3_findBits : List Cond := .code yX3_findBits cX3_findBits 5 none :: ((wsX3_findBits_r1 ++ wsX3_findBits_r2) ++ wsX30)
def wsX3_greatestLoser : List Cond := .code yX3_greatestLoser cX3_greatestLoser 3 (some .int) :: ([.methodLink RX3 50 yX3_lossOf, .instanceMethod yX3_lossOf, .selects RX3 yX3_lossOf yX3_lossOf, .initialized RX3, .code yX3_lossOf cX3_lossOf 2 (some .int), .fieldLink RX3 9 "ShareMover$Mapping" "held" "[I", .fieldLink RX3 15 "ShareMover$Mapping" "given" "[I", .methodLink RX3 53 yJ6_bitCount_0f7a4, .static yJ6_bitCount_0f7a4, .initialized RJ6, .code yJ6_bitCount_0f7a4 cJ6_bitCount_0f7a4 1 (some .int), .constant RJ6 265 (1431655765), .constant RJ6 266 (858993459), .constant RJ6 267 (252645135)] ++ wsX30)
def wsX3_make_r1 : List Cond := [Cond.fieldLink RX3 18 "ShareMover$Mapping" "group" "I", Cond.fieldLink RX3 28 "ShareMover$Mapping" "namedPersons" "I", Cond.fieldLink RX3 31 "ShareMover$Mapping" "lost" "I", Cond.methodLink RX3 34 yX3_findBits, Cond.instanceMethod yX3_findBits, Cond.selects RX3 yX3_findBits yX3_findBits, Cond.initialized RX3, Cond.code yX3_findBits cX3_findBits 5 none, Cond.fieldLink RX3 22 "ShareMover$Mapping" "groupBits" "I", Cond.fieldLink RX3 25 "ShareMover$Mapping" "otherBits" "I", Cond.fieldLink RX3 15 "ShareMover$Mapping" "given" "[I", Cond.fieldLink RX3 9 "ShareMover$Mapping" "held" "[I", Cond.methodLink RX3 42 yX3_sharedBy, Cond.instanceMethod yX3_sharedBy, Cond.selects RX3 yX3_sharedBy yX3_sharedBy, Cond.code yX3_sharedBy cX3_sharedBy 4 (some .int), Cond.static yX4_contains, Cond.initialized RX4, Cond.code yX4_contains cX4_contains 2 (some .boolean), Cond.methodLink RX3 50 yX3_lossOf, Cond.instanceMethod yX3_lossOf, Cond.selects RX3 yX3_lossOf yX3_lossOf, Cond.code yX3_lossOf cX3_lossOf 2 (some .int), Cond.methodLink RX3 53 yJ6_bitCount_0f7a4]
def wsX3_make_r2 : List Cond := [Cond.static yJ6_bitCount_0f7a4, Cond.initialized RJ6, Cond.code yJ6_bitCount_0f7a4 cJ6_bitCount_0f7a4 1 (some .int), Cond.constant RJ6 265 (1431655765), Cond.constant RJ6 266 (858993459), Cond.constant RJ6 267 (252645135), Cond.methodLink RX3 38 yX3_greatestLoser, Cond.instanceMethod yX3_greatestLoser, Cond.selects RX3 yX3_greatestLoser yX3_greatestLoser, Cond.code yX3_greatestLoser cX3_greatestLoser 3 (some .int)]
def wsX3_make : List Cond := .code yX3_make cX3_make 5 none :: ((wsX3_make_r1 ++ wsX3_make_r2) ++ wsX30)
def wsJ8_hugeLength_7cf53 : List Cond := .code yJ8_hugeLength_7cf53 cJ8_hugeLength_7cf53 3 (some .int) :: ([.constant RJ8 200 (2147483639)])
def wsJ8_newLength_cabcc : List Cond := .code yJ8_newLength_cabcc cJ8_newLength_cabcc 4 (some .int) :: ([.methodLink RJ8 194 Lib.Math.max.name, .static Lib.Math.max.name, .initialized "java/lang/Math", .code Lib.Math.max.name Lib.Math.max.code 2 (some .int), .constant RJ8 200 (2147483639), .methodLink RJ8 201 yJ8_hugeLength_7cf53, .static yJ8_hugeLength_7cf53, .initialized RJ8, .code yJ8_hugeLength_7cf53 cJ8_hugeLength_7cf53 3 (some .int)])
def wsJ7_copyOf_6403c : List Cond := .code yJ7_copyOf_6403c cJ7_copyOf_6403c 4 (some (.array (.object "java/lang/Object"))) :: ([.classLink RJ7 110 "[Ljava/lang/Object;", .classLink RJ7 2 "java/lang/Object", .methodLink RJ7 304 Lib.Math.min.name, .static Lib.Math.min.name, .initialized "java/lang/Math", .code Lib.Math.min.name Lib.Math.min.code 2 (some .int), .methodLink RJ7 150 arraycopyName, .native arraycopyName, .static arraycopyName, .initialized "java/lang/System"])
def wsJ7_copyOf_1904c : List Cond := .code yJ7_copyOf_1904c cJ7_copyOf_1904c 2 (some (.array (.object "java/lang/Object"))) :: ([.methodLink RJ7 86 ⟨"java/lang/Object", "getClass", "()Ljava/lang/Class;"⟩, .selects "[Ljava/lang/Object;" ⟨"java/lang/Object", "getClass", "()Ljava/lang/Class;"⟩ ⟨"java/lang/Object", "getClass", "()Ljava/lang/Class;"⟩, .instanceMethod ⟨"java/lang/Object", "getClass", "()Ljava/lang/Class;"⟩, .native ⟨"java/lang/Object", "getClass", "()Ljava/lang/Class;"⟩, .methodLink RJ7 300 yJ7_copyOf_6403c, .static yJ7_copyOf_6403c, .initialized RJ7, .code yJ7_copyOf_6403c cJ7_copyOf_6403c 4 (some (.array (.object "java/lang/Object"))), .classLink RJ7 110 "[Ljava/lang/Object;", .classLink RJ7 2 "java/lang/Object", .methodLink RJ7 304 Lib.Math.min.name, .static Lib.Math.min.name, .initialized "java/lang/Math", .code Lib.Math.min.name Lib.Math.min.code 2 (some .int), .methodLink RJ7 150 arraycopyName, .native arraycopyName, .static arraycopyName, .initialized "java/lang/System"])
def wsJx4a65c_grow_92f84_r1 : List Cond := [Cond.fieldLink RJx4a65c 9 "java/util/ArrayList" "elementData" "[Ljava/lang/Object;", Cond.fieldLink RJx4a65c 39 "java/util/ArrayList" "DEFAULTCAPACITY_EMPTY_ELEMENTDATA" "[Ljava/lang/Object;", Cond.methodLink RJx4a65c 79 Lib.Math.max.name, Cond.static Lib.Math.max.name, Cond.initialized "java/lang/Math", Cond.code Lib.Math.max.name Lib.Math.max.code 2 (some .int), Cond.classLink RJx4a65c 7 "java/lang/Object", Cond.methodLink RJx4a65c 73 yJ8_newLength_cabcc, Cond.static yJ8_newLength_cabcc, Cond.initialized RJ8, Cond.code yJ8_newLength_cabcc cJ8_newLength_cabcc 4 (some .int), Cond.methodLink RJ8 194 Lib.Math.max.name, Cond.constant RJ8 200 (2147483639), Cond.methodLink RJ8 201 yJ8_hugeLength_7cf53, Cond.static yJ8_hugeLength_7cf53, Cond.code yJ8_hugeLength_7cf53 cJ8_hugeLength_7cf53 3 (some .int), Cond.methodLink RJx4a65c 66 yJ7_copyOf_1904c, Cond.static yJ7_copyOf_1904c, Cond.initialized RJ7, Cond.code yJ7_copyOf_1904c cJ7_copyOf_1904c 2 (some (.array (.object "java/lang/Object"))), Cond.methodLink RJ7 86 ⟨"java/lang/Object", "getClass", "()Ljava/lang/Class;"⟩, Cond.selects "[Ljava/lang/Object;" ⟨"java/lang/Object", "getClass", "()Ljava/lang/Class;"⟩ ⟨"java/lang/Object", "getClass", "()Ljava/lang/Class;"⟩, Cond.instanceMethod ⟨"java/lang/Object", "getClass", "()Ljava/lang/Class;"⟩, Cond.native ⟨"java/lang/Object", "getClass", "()Ljava/lang/Class;"⟩]
def wsJx4a65c_grow_92f84_r2 : List Cond := [Cond.methodLink RJ7 300 yJ7_copyOf_6403c, Cond.static yJ7_copyOf_6403c, Cond.code yJ7_copyOf_6403c cJ7_copyOf_6403c 4 (some (.array (.object "java/lang/Object"))), Cond.classLink RJ7 110 "[Ljava/lang/Object;", Cond.classLink RJ7 2 "java/lang/Object", Cond.methodLink RJ7 304 Lib.Math.min.name, Cond.static Lib.Math.min.name, Cond.code Lib.Math.min.name Lib.Math.min.code 2 (some .int), Cond.methodLink RJ7 150 arraycopyName, Cond.native arraycopyName, Cond.static arraycopyName, Cond.initialized "java/lang/System"]
def wsJx4a65c_grow_92f84 : List Cond := .code yJx4a65c_grow_92f84 cJx4a65c_grow_92f84 4 (some (.array (.object "java/lang/Object"))) :: ((wsJx4a65c_grow_92f84_r1 ++ wsJx4a65c_grow_92f84_r2) ++ wsJx4a65c0)
def wsJx4a65c_grow_d5877_r1 : List Cond := [Cond.fieldLink RJx4a65c 48 "java/util/ArrayList" "size" "I", Cond.methodLink RJx4a65c 69 yJx4a65c_grow_92f84, Cond.instanceMethod yJx4a65c_grow_92f84, Cond.selects RJx4a65c yJx4a65c_grow_92f84 yJx4a65c_grow_92f84, Cond.initialized RJx4a65c, Cond.code yJx4a65c_grow_92f84 cJx4a65c_grow_92f84 4 (some (.array (.object "java/lang/Object"))), Cond.fieldLink RJx4a65c 9 "java/util/ArrayList" "elementData" "[Ljava/lang/Object;", Cond.fieldLink RJx4a65c 39 "java/util/ArrayList" "DEFAULTCAPACITY_EMPTY_ELEMENTDATA" "[Ljava/lang/Object;", Cond.methodLink RJx4a65c 79 Lib.Math.max.name, Cond.static Lib.Math.max.name, Cond.initialized "java/lang/Math", Cond.code Lib.Math.max.name Lib.Math.max.code 2 (some .int), Cond.classLink RJx4a65c 7 "java/lang/Object", Cond.methodLink RJx4a65c 73 yJ8_newLength_cabcc, Cond.static yJ8_newLength_cabcc, Cond.initialized RJ8, Cond.code yJ8_newLength_cabcc cJ8_newLength_cabcc 4 (some .int), Cond.methodLink RJ8 194 Lib.Math.max.name, Cond.constant RJ8 200 (2147483639), Cond.methodLink RJ8 201 yJ8_hugeLength_7cf53, Cond.static yJ8_hugeLength_7cf53, Cond.code yJ8_hugeLength_7cf53 cJ8_hugeLength_7cf53 3 (some .int), Cond.methodLink RJx4a65c 66 yJ7_copyOf_1904c, Cond.static yJ7_copyOf_1904c]
def wsJx4a65c_grow_d5877_r2 : List Cond := [Cond.initialized RJ7, Cond.code yJ7_copyOf_1904c cJ7_copyOf_1904c 2 (some (.array (.object "java/lang/Object"))), Cond.methodLink RJ7 86 ⟨"java/lang/Object", "getClass", "()Ljava/lang/Class;"⟩, Cond.selects "[Ljava/lang/Object;" ⟨"java/lang/Object", "getClass", "()Ljava/lang/Class;"⟩ ⟨"java/lang/Object", "getClass", "()Ljava/lang/Class;"⟩, Cond.instanceMethod ⟨"java/lang/Object", "getClass", "()Ljava/lang/Class;"⟩, Cond.native ⟨"java/lang/Object", "getClass", "()Ljava/lang/Class;"⟩, Cond.methodLink RJ7 300 yJ7_copyOf_6403c, Cond.static yJ7_copyOf_6403c, Cond.code yJ7_copyOf_6403c cJ7_copyOf_6403c 4 (some (.array (.object "java/lang/Object"))), Cond.classLink RJ7 110 "[Ljava/lang/Object;", Cond.classLink RJ7 2 "java/lang/Object", Cond.methodLink RJ7 304 Lib.Math.min.name, Cond.static Lib.Math.min.name, Cond.code Lib.Math.min.name Lib.Math.min.code 2 (some .int), Cond.methodLink RJ7 150 arraycopyName, Cond.native arraycopyName, Cond.static arraycopyName, Cond.initialized "java/lang/System"]
def wsJx4a65c_grow_d5877 : List Cond := .code yJx4a65c_grow_d5877 cJx4a65c_grow_d5877 1 (some (.array (.object "java/lang/Object"))) :: ((wsJx4a65c_grow_d5877_r1 ++ wsJx4a65c_grow_d5877_r2) ++ wsJx4a65c0)
def wsJx4a65c_add_72be8_r1 : List Cond := [Cond.fieldLink RJx4a65c 48 "java/util/ArrayList" "size" "I", Cond.methodLink RJx4a65c 129 yJx4a65c_grow_d5877, Cond.instanceMethod yJx4a65c_grow_d5877, Cond.selects RJx4a65c yJx4a65c_grow_d5877 yJx4a65c_grow_d5877, Cond.initialized RJx4a65c, Cond.code yJx4a65c_grow_d5877 cJx4a65c_grow_d5877 1 (some (.array (.object "java/lang/Object"))), Cond.methodLink RJx4a65c 69 yJx4a65c_grow_92f84, Cond.instanceMethod yJx4a65c_grow_92f84, Cond.selects RJx4a65c yJx4a65c_grow_92f84 yJx4a65c_grow_92f84, Cond.code yJx4a65c_grow_92f84 cJx4a65c_grow_92f84 4 (some (.array (.object "java/lang/Object"))), Cond.fieldLink RJx4a65c 9 "java/util/ArrayList" "elementData" "[Ljava/lang/Object;", Cond.fieldLink RJx4a65c 39 "java/util/ArrayList" "DEFAULTCAPACITY_EMPTY_ELEMENTDATA" "[Ljava/lang/Object;", Cond.methodLink RJx4a65c 79 Lib.Math.max.name, Cond.static Lib.Math.max.name, Cond.initialized "java/lang/Math", Cond.code Lib.Math.max.name Lib.Math.max.code 2 (some .int), Cond.classLink RJx4a65c 7 "java/lang/Object", Cond.methodLink RJx4a65c 73 yJ8_newLength_cabcc, Cond.static yJ8_newLength_cabcc, Cond.initialized RJ8, Cond.code yJ8_newLength_cabcc cJ8_newLength_cabcc 4 (some .int), Cond.methodLink RJ8 194 Lib.Math.max.name, Cond.constant RJ8 200 (2147483639), Cond.methodLink RJ8 201 yJ8_hugeLength_7cf53]
def wsJx4a65c_add_72be8_r2 : List Cond := [Cond.static yJ8_hugeLength_7cf53, Cond.code yJ8_hugeLength_7cf53 cJ8_hugeLength_7cf53 3 (some .int), Cond.methodLink RJx4a65c 66 yJ7_copyOf_1904c, Cond.static yJ7_copyOf_1904c, Cond.initialized RJ7, Cond.code yJ7_copyOf_1904c cJ7_copyOf_1904c 2 (some (.array (.object "java/lang/Object"))), Cond.methodLink RJ7 86 ⟨"java/lang/Object", "getClass", "()Ljava/lang/Class;"⟩, Cond.selects "[Ljava/lang/Object;" ⟨"java/lang/Object", "getClass", "()Ljava/lang/Class;"⟩ ⟨"java/lang/Object", "getClass", "()Ljava/lang/Class;"⟩, Cond.instanceMethod ⟨"java/lang/Object", "getClass", "()Ljava/lang/Class;"⟩, Cond.native ⟨"java/lang/Object", "getClass", "()Ljava/lang/Class;"⟩, Cond.methodLink RJ7 300 yJ7_copyOf_6403c, Cond.static yJ7_copyOf_6403c, Cond.code yJ7_copyOf_6403c cJ7_copyOf_6403c 4 (some (.array (.object "java/lang/Object"))), Cond.classLink RJ7 110 "[Ljava/lang/Object;", Cond.classLink RJ7 2 "java/lang/Object", Cond.methodLink RJ7 304 Lib.Math.min.name, Cond.static Lib.Math.min.name, Cond.code Lib.Math.min.name Lib.Math.min.code 2 (some .int), Cond.methodLink RJ7 150 arraycopyName, Cond.native arraycopyName, Cond.static arraycopyName, Cond.initialized "java/lang/System"]
def wsJx4a65c_add_72be8 : List Cond := .code yJx4a65c_add_72be8 cJx4a65c_add_72be8 4 none :: ((wsJx4a65c_add_72be8_r1 ++ wsJx4a65c_add_72be8_r2) ++ wsJx4a65c0)
def wsJx4a65c_add_9ea2d_r1 : List Cond := [Cond.fieldLink RJx4a65c 63 "java/util/ArrayList" "modCount" "I", Cond.sameField "java/util/ArrayList" "java/util/AbstractList" "modCount" "I", Cond.fieldLink RJx4a65c 9 "java/util/ArrayList" "elementData" "[Ljava/lang/Object;", Cond.fieldLink RJx4a65c 48 "java/util/ArrayList" "size" "I", Cond.methodLink RJx4a65c 131 yJx4a65c_add_72be8, Cond.instanceMethod yJx4a65c_add_72be8, Cond.selects RJx4a65c yJx4a65c_add_72be8 yJx4a65c_add_72be8, Cond.initialized RJx4a65c, Cond.code yJx4a65c_add_72be8 cJx4a65c_add_72be8 4 none, Cond.methodLink RJx4a65c 129 yJx4a65c_grow_d5877, Cond.instanceMethod yJx4a65c_grow_d5877, Cond.selects RJx4a65c yJx4a65c_grow_d5877 yJx4a65c_grow_d5877, Cond.code yJx4a65c_grow_d5877 cJx4a65c_grow_d5877 1 (some (.array (.object "java/lang/Object"))), Cond.methodLink RJx4a65c 69 yJx4a65c_grow_92f84, Cond.instanceMethod yJx4a65c_grow_92f84, Cond.selects RJx4a65c yJx4a65c_grow_92f84 yJx4a65c_grow_92f84, Cond.code yJx4a65c_grow_92f84 cJx4a65c_grow_92f84 4 (some (.array (.object "java/lang/Object"))), Cond.fieldLink RJx4a65c 39 "java/util/ArrayList" "DEFAULTCAPACITY_EMPTY_ELEMENTDATA" "[Ljava/lang/Object;", Cond.methodLink RJx4a65c 79 Lib.Math.max.name, Cond.static Lib.Math.max.name, Cond.initialized "java/lang/Math", Cond.code Lib.Math.max.name Lib.Math.max.code 2 (some .int), Cond.classLink RJx4a65c 7 "java/lang/Object", Cond.methodLink RJx4a65c 73 yJ8_newLength_cabcc]
def wsJx4a65c_add_9ea2d_r2 : List Cond := [Cond.static yJ8_newLength_cabcc, Cond.initialized RJ8, Cond.code yJ8_newLength_cabcc cJ8_newLength_cabcc 4 (some .int), Cond.methodLink RJ8 194 Lib.Math.max.name, Cond.constant RJ8 200 (2147483639), Cond.methodLink RJ8 201 yJ8_hugeLength_7cf53, Cond.static yJ8_hugeLength_7cf53, Cond.code yJ8_hugeLength_7cf53 cJ8_hugeLength_7cf53 3 (some .int), Cond.methodLink RJx4a65c 66 yJ7_copyOf_1904c, Cond.static yJ7_copyOf_1904c, Cond.initialized RJ7, Cond.code yJ7_copyOf_1904c cJ7_copyOf_1904c 2 (some (.array (.object "java/lang/Object"))), Cond.methodLink RJ7 86 ⟨"java/lang/Object", "getClass", "()Ljava/lang/Class;"⟩, Cond.selects "[Ljava/lang/Object;" ⟨"java/lang/Object", "getClass", "()Ljava/lang/Class;"⟩ ⟨"java/lang/Object", "getClass", "()Ljava/lang/Class;"⟩, Cond.instanceMethod ⟨"java/lang/Object", "getClass", "()Ljava/lang/Class;"⟩, Cond.native ⟨"java/lang/Object", "getClass", "()Ljava/lang/Class;"⟩, Cond.methodLink RJ7 300 yJ7_copyOf_6403c, Cond.static yJ7_copyOf_6403c, Cond.code yJ7_copyOf_6403c cJ7_copyOf_6403c 4 (some (.array (.object "java/lang/Object"))), Cond.classLink RJ7 110 "[Ljava/lang/Object;", Cond.classLink RJ7 2 "java/lang/Object", Cond.methodLink RJ7 304 Lib.Math.min.name, Cond.static Lib.Math.min.name, Cond.code Lib.Math.min.name Lib.Math.min.code 2 (some .int)]
def wsJx4a65c_add_9ea2d_r3 : List Cond := [Cond.methodLink RJ7 150 arraycopyName, Cond.native arraycopyName, Cond.static arraycopyName, Cond.initialized "java/lang/System"]
def wsJx4a65c_add_9ea2d : List Cond := .code yJx4a65c_add_9ea2d cJx4a65c_add_9ea2d 2 (some .boolean) :: ((wsJx4a65c_add_9ea2d_r1 ++ (wsJx4a65c_add_9ea2d_r2 ++ wsJx4a65c_add_9ea2d_r3)) ++ wsJx4a65c0)
def wsX4_init_r1 : List Cond := [Cond.methodLink RX4 3 objectInit, Cond.instanceMethod objectInit, Cond.code objectInit ⟨#[0xb1]⟩ 1 none, Cond.classLink RX4 9 RX2, Cond.instantiable RX2 3, Cond.initialized RX2, Cond.fieldLink RX4 12 "ShareMover" "groups" "LShareMover$Groups;", Cond.classLink RX4 16 RJx4a65c, Cond.instantiable RJx4a65c 3, Cond.initialized RJx4a65c, Cond.fieldLink RX4 19 "ShareMover" "tree" "Ljava/util/ArrayList;", Cond.classLink RX4 23 RX3, Cond.instantiable RX3 7, Cond.initialized RX3, Cond.fieldLink RX4 26 "ShareMover" "mapping" "LShareMover$Mapping;", Cond.classLink RX4 30 RX1, Cond.instantiable RX1 7, Cond.initialized RX1, Cond.instanceMethod yX2_init, Cond.code yX2_init cX2_init 1 none, Cond.methodLink RX2 3 objectInit, Cond.arrayClass .int, Cond.fieldLink RX2 9 "ShareMover$Groups" "ownPersons" "[I", Cond.fieldLink RX2 15 "ShareMover$Groups" "ownGroups" "[I"]
def wsX4_init_r2 : List Cond := [Cond.fieldLink RX2 18 "ShareMover$Groups" "everyone" "[I", Cond.methodLink RX4 18 yJx4a65c_init_da8c8, Cond.instanceMethod yJx4a65c_init_da8c8, Cond.code yJx4a65c_init_da8c8 cJx4a65c_init_da8c8 1 none, Cond.fieldLink RJx4a65c 39 "java/util/ArrayList" "DEFAULTCAPACITY_EMPTY_ELEMENTDATA" "[Ljava/lang/Object;", Cond.fieldLink RJx4a65c 9 "java/util/ArrayList" "elementData" "[Ljava/lang/Object;", Cond.methodLink RJx4a65c 1 yJxc12de_init_da8c8, Cond.instanceMethod yJxc12de_init_da8c8, Cond.initialized RJxc12de, Cond.code yJxc12de_init_da8c8 cJxc12de_init_da8c8 1 none, Cond.fieldLink RJxc12de 7 "java/util/AbstractList" "modCount" "I", Cond.methodLink RJxc12de 1 yJxa1e45_init_da8c8, Cond.instanceMethod yJxa1e45_init_da8c8, Cond.initialized RJxa1e45, Cond.code yJxa1e45_init_da8c8 cJxa1e45_init_da8c8 1 none, Cond.methodLink RJxa1e45 1 objectInit, Cond.instanceMethod yX3_init, Cond.code yX3_init cX3_init 1 none, Cond.methodLink RX3 3 objectInit, Cond.fieldLink RX3 9 "ShareMover$Mapping" "held" "[I", Cond.fieldLink RX3 15 "ShareMover$Mapping" "given" "[I", Cond.fieldLink RX3 18 "ShareMover$Mapping" "group" "I", Cond.fieldLink RX3 22 "ShareMover$Mapping" "groupBits" "I", Cond.fieldLink RX3 25 "ShareMover$Mapping" "otherBits" "I"]
def wsX4_init_r3 : List Cond := [Cond.fieldLink RX3 28 "ShareMover$Mapping" "namedPersons" "I", Cond.fieldLink RX3 31 "ShareMover$Mapping" "lost" "I", Cond.methodLink RX4 32 yX1_init, Cond.instanceMethod yX1_init, Cond.code yX1_init cX1_init 3 none, Cond.methodLink RX1 3 objectInit, Cond.classLink RX1 9 RJx4a65c, Cond.fieldLink RX1 12 "ShareMover$Folder" "row" "Ljava/util/ArrayList;", Cond.fieldLink RX1 18 "ShareMover$Folder" "kept" "[I", Cond.fieldLink RX1 22 "ShareMover$Folder" "inherits" "Z", Cond.fieldLink RX1 26 "ShareMover$Folder" "hasKept" "Z", Cond.fieldLink RX1 29 "ShareMover$Folder" "switched" "Z", Cond.fieldLink RX1 32 "ShareMover$Folder" "parent" "LShareMover$Folder;", Cond.fieldLink RX1 36 "ShareMover$Folder" "owner" "I", Cond.methodLink RX1 11 yJx4a65c_init_da8c8, Cond.methodLink RX4 35 yJx4a65c_add_9ea2d, Cond.instanceMethod yJx4a65c_add_9ea2d, Cond.selects RJx4a65c yJx4a65c_add_9ea2d yJx4a65c_add_9ea2d, Cond.code yJx4a65c_add_9ea2d cJx4a65c_add_9ea2d 2 (some .boolean), Cond.fieldLink RJx4a65c 63 "java/util/ArrayList" "modCount" "I", Cond.sameField "java/util/ArrayList" "java/util/AbstractList" "modCount" "I", Cond.fieldLink RJx4a65c 48 "java/util/ArrayList" "size" "I", Cond.methodLink RJx4a65c 131 yJx4a65c_add_72be8, Cond.instanceMethod yJx4a65c_add_72be8]
def wsX4_init_r4 : List Cond := [Cond.selects RJx4a65c yJx4a65c_add_72be8 yJx4a65c_add_72be8, Cond.code yJx4a65c_add_72be8 cJx4a65c_add_72be8 4 none, Cond.methodLink RJx4a65c 129 yJx4a65c_grow_d5877, Cond.instanceMethod yJx4a65c_grow_d5877, Cond.selects RJx4a65c yJx4a65c_grow_d5877 yJx4a65c_grow_d5877, Cond.code yJx4a65c_grow_d5877 cJx4a65c_grow_d5877 1 (some (.array (.object "java/lang/Object"))), Cond.methodLink RJx4a65c 69 yJx4a65c_grow_92f84, Cond.instanceMethod yJx4a65c_grow_92f84, Cond.selects RJx4a65c yJx4a65c_grow_92f84 yJx4a65c_grow_92f84, Cond.code yJx4a65c_grow_92f84 cJx4a65c_grow_92f84 4 (some (.array (.object "java/lang/Object"))), Cond.methodLink RJx4a65c 79 Lib.Math.max.name, Cond.static Lib.Math.max.name, Cond.initialized "java/lang/Math", Cond.code Lib.Math.max.name Lib.Math.max.code 2 (some .int), Cond.classLink RJx4a65c 7 "java/lang/Object", Cond.methodLink RJx4a65c 73 yJ8_newLength_cabcc, Cond.static yJ8_newLength_cabcc, Cond.initialized RJ8, Cond.code yJ8_newLength_cabcc cJ8_newLength_cabcc 4 (some .int), Cond.methodLink RJ8 194 Lib.Math.max.name, Cond.constant RJ8 200 (2147483639), Cond.methodLink RJ8 201 yJ8_hugeLength_7cf53, Cond.static yJ8_hugeLength_7cf53, Cond.code yJ8_hugeLength_7cf53 cJ8_hugeLength_7cf53 3 (some .int)]
def wsX4_init_r5 : List Cond := [Cond.methodLink RJx4a65c 66 yJ7_copyOf_1904c, Cond.static yJ7_copyOf_1904c, Cond.initialized RJ7, Cond.code yJ7_copyOf_1904c cJ7_copyOf_1904c 2 (some (.array (.object "java/lang/Object"))), Cond.methodLink RJ7 86 ⟨"java/lang/Object", "getClass", "()Ljava/lang/Class;"⟩, Cond.selects "[Ljava/lang/Object;" ⟨"java/lang/Object", "getClass", "()Ljava/lang/Class;"⟩ ⟨"java/lang/Object", "getClass", "()Ljava/lang/Class;"⟩, Cond.instanceMethod ⟨"java/lang/Object", "getClass", "()Ljava/lang/Class;"⟩, Cond.native ⟨"java/lang/Object", "getClass", "()Ljava/lang/Class;"⟩, Cond.methodLink RJ7 300 yJ7_copyOf_6403c, Cond.static yJ7_copyOf_6403c, Cond.code yJ7_copyOf_6403c cJ7_copyOf_6403c 4 (some (.array (.object "java/lang/Object"))), Cond.classLink RJ7 110 "[Ljava/lang/Object;", Cond.classLink RJ7 2 "java/lang/Object", Cond.methodLink RJ7 304 Lib.Math.min.name, Cond.static Lib.Math.min.name, Cond.code Lib.Math.min.name Lib.Math.min.code 2 (some .int), Cond.methodLink RJ7 150 arraycopyName, Cond.native arraycopyName, Cond.static arraycopyName, Cond.initialized "java/lang/System"]
def wsX4_init : List Cond := .code yX4_init cX4_init 1 none :: ((wsX4_init_r1 ++ (wsX4_init_r2 ++ (wsX4_init_r3 ++ (wsX4_init_r4 ++ wsX4_init_r5)))) ++ wsX20 ++ wsX40 ++ wsJx4a65c0 ++ wsX30 ++ wsX10)
def wsX4_refuseNoGroup : List Cond := .code yX4_refuseNoGroup cX4_refuseNoGroup 1 none :: ([.classLink RX4 89 "java/lang/IndexOutOfBoundsException", .initialized "java/lang/IndexOutOfBoundsException"] ++ (vx_atS RX4 93 "java/lang/IndexOutOfBoundsException" ["java/lang/RuntimeException", "java/lang/Exception"]).filter goodWord)
def wsX4_refuseNoPerson : List Cond := .code yX4_refuseNoPerson cX4_refuseNoPerson 1 none :: ([.classLink RX4 89 "java/lang/IndexOutOfBoundsException", .initialized "java/lang/IndexOutOfBoundsException"] ++ (vx_atS RX4 93 "java/lang/IndexOutOfBoundsException" ["java/lang/RuntimeException", "java/lang/Exception"]).filter goodWord)
def wsX4_setMember_r1 : List Cond := [Cond.fieldLink RX4 12 "ShareMover" "groups" "LShareMover$Groups;", Cond.methodLink RX4 39 yX4_refuseNoGroup, Cond.static yX4_refuseNoGroup, Cond.initialized RX4, Cond.code yX4_refuseNoGroup cX4_refuseNoGroup 1 none, Cond.classLink RX4 89 "java/lang/IndexOutOfBoundsException", Cond.initialized "java/lang/IndexOutOfBoundsException", Cond.methodLink RX4 43 yX4_refuseNoPerson, Cond.static yX4_refuseNoPerson, Cond.code yX4_refuseNoPerson cX4_refuseNoPerson 1 none, Cond.methodLink RX4 46 yX2_put, Cond.instanceMethod yX2_put, Cond.selects RX2 yX2_put yX2_put, Cond.initialized RX2, Cond.code yX2_put cX2_put 5 (some .boolean), Cond.fieldLink RX2 9 "ShareMover$Groups" "ownPersons" "[I", Cond.static yX4_contains, Cond.code yX4_contains cX4_contains 2 (some .boolean), Cond.methodLink RX2 25 yX2_findEveryone, Cond.instanceMethod yX2_findEveryone, Cond.selects RX2 yX2_findEveryone yX2_findEveryone, Cond.code yX2_findEveryone cX2_findEveryone 5 none, Cond.fieldLink RX2 18 "ShareMover$Groups" "everyone" "[I", Cond.methodLink RX2 28 yX2_reachedFrom]
def wsX4_setMember_r2 : List Cond := [Cond.instanceMethod yX2_reachedFrom, Cond.selects RX2 yX2_reachedFrom yX2_reachedFrom, Cond.code yX2_reachedFrom cX2_reachedFrom 5 (some .int), Cond.fieldLink RX2 15 "ShareMover$Groups" "ownGroups" "[I"]
def wsX4_setMember : List Cond := .code yX4_setMember cX4_setMember 4 (some .boolean) :: ((wsX4_setMember_r1 ++ wsX4_setMember_r2) ++ wsX40 ++ wsX20 ++ (vx_atS RX4 93 "java/lang/IndexOutOfBoundsException" ["java/lang/RuntimeException", "java/lang/Exception"]).filter goodWord)
def wsX4_nest_r1 : List Cond := [Cond.classLink RX4 58 "java/lang/IllegalStateException", Cond.initialized "java/lang/IllegalStateException", Cond.fieldLink RX4 12 "ShareMover" "groups" "LShareMover$Groups;", Cond.methodLink RX4 39 yX4_refuseNoGroup, Cond.static yX4_refuseNoGroup, Cond.initialized RX4, Cond.code yX4_refuseNoGroup cX4_refuseNoGroup 1 none, Cond.classLink RX4 89 "java/lang/IndexOutOfBoundsException", Cond.initialized "java/lang/IndexOutOfBoundsException", Cond.methodLink RX4 50 yX2_reachedFrom, Cond.instanceMethod yX2_reachedFrom, Cond.selects RX2 yX2_reachedFrom yX2_reachedFrom, Cond.initialized RX2, Cond.code yX2_reachedFrom cX2_reachedFrom 5 (some .int), Cond.fieldLink RX2 15 "ShareMover$Groups" "ownGroups" "[I", Cond.static yX4_contains, Cond.code yX4_contains cX4_contains 2 (some .boolean), Cond.methodLink RX4 54 yX4_contains, Cond.methodLink RX4 65 yX2_toggleInner, Cond.instanceMethod yX2_toggleInner, Cond.selects RX2 yX2_toggleInner yX2_toggleInner, Cond.code yX2_toggleInner cX2_toggleInner 3 (some .boolean), Cond.methodLink RX2 25 yX2_findEveryone, Cond.instanceMethod yX2_findEveryone]
def wsX4_nest_r2 : List Cond := [Cond.selects RX2 yX2_findEveryone yX2_findEveryone, Cond.code yX2_findEveryone cX2_findEveryone 5 none, Cond.fieldLink RX2 9 "ShareMover$Groups" "ownPersons" "[I", Cond.fieldLink RX2 18 "ShareMover$Groups" "everyone" "[I", Cond.methodLink RX2 28 yX2_reachedFrom]
def wsX4_nest : List Cond := .code yX4_nest cX4_nest 3 (some .boolean) :: ((wsX4_nest_r1 ++ wsX4_nest_r2) ++ wsX40 ++ wsX20 ++ (vx_atS RX4 62 "java/lang/IllegalStateException" ["java/lang/RuntimeException", "java/lang/Exception"]).filter goodWord ++ (vx_atS RX4 93 "java/lang/IndexOutOfBoundsException" ["java/lang/RuntimeException", "java/lang/Exception"]).filter goodWord)
def wsX4_members : List Cond := .code yX4_members cX4_members 2 (some .int) :: ([.fieldLink RX4 12 "ShareMover" "groups" "LShareMover$Groups;", .methodLink RX4 39 yX4_refuseNoGroup, .static yX4_refuseNoGroup, .initialized RX4, .code yX4_refuseNoGroup cX4_refuseNoGroup 1 none, .classLink RX4 89 "java/lang/IndexOutOfBoundsException", .initialized "java/lang/IndexOutOfBoundsException", .methodLink RX4 68 yX2_everyoneIn, .instanceMethod yX2_everyoneIn, .selects RX2 yX2_everyoneIn yX2_everyoneIn, .initialized RX2, .code yX2_everyoneIn cX2_everyoneIn 2 (some .int), .fieldLink RX2 18 "ShareMover$Groups" "everyone" "[I"] ++ wsX40 ++ wsX20 ++ (vx_atS RX4 93 "java/lang/IndexOutOfBoundsException" ["java/lang/RuntimeException", "java/lang/Exception"]).filter goodWord)
def wsJx4a65c_size_8abf5 : List Cond := .code yJx4a65c_size_8abf5 cJx4a65c_size_8abf5 1 (some .int) :: ([.fieldLink RJx4a65c 48 "java/util/ArrayList" "size" "I"] ++ wsJx4a65c0)
def wsJ3_checkIndex_8e157 : List Cond := .code yJ3_checkIndex_8e157 cJ3_checkIndex_8e157 3 (some .int) :: ([])
def wsJ15_checkIndex_7cf53 : List Cond := .code yJ15_checkIndex_7cf53 cJ15_checkIndex_7cf53 2 (some .int) :: ([.methodLink RJ15 105 yJ3_checkIndex_8e157, .static yJ3_checkIndex_8e157, .initialized RJ3, .code yJ3_checkIndex_8e157 cJ3_checkIndex_8e157 3 (some .int)])
def wsJx4a65c_elementData_915e3 : List Cond := .code yJx4a65c_elementData_915e3 cJx4a65c_elementData_915e3 2 (some (.object "java/lang/Object")) :: ([.fieldLink RJx4a65c 9 "java/util/ArrayList" "elementData" "[Ljava/lang/Object;"] ++ wsJx4a65c0)
def wsJx4a65c_get_915e3 : List Cond := .code yJx4a65c_get_915e3 cJx4a65c_get_915e3 2 (some (.object "java/lang/Object")) :: ([.fieldLink RJx4a65c 48 "java/util/ArrayList" "size" "I", .methodLink RJx4a65c 118 yJ15_checkIndex_7cf53, .static yJ15_checkIndex_7cf53, .initialized RJ15, .code yJ15_checkIndex_7cf53 cJ15_checkIndex_7cf53 2 (some .int), .methodLink RJ15 105 yJ3_checkIndex_8e157, .static yJ3_checkIndex_8e157, .initialized RJ3, .code yJ3_checkIndex_8e157 cJ3_checkIndex_8e157 3 (some .int), .methodLink RJx4a65c 123 yJx4a65c_elementData_915e3, .instanceMethod yJx4a65c_elementData_915e3, .selects RJx4a65c yJx4a65c_elementData_915e3 yJx4a65c_elementData_915e3, .initialized RJx4a65c, .code yJx4a65c_elementData_915e3 cJx4a65c_elementData_915e3 2 (some (.object "java/lang/Object")), .fieldLink RJx4a65c 9 "java/util/ArrayList" "elementData" "[Ljava/lang/Object;"] ++ wsJx4a65c0)
def wsX4_folderAt_r1 : List Cond := [Cond.classLink RX4 89 "java/lang/IndexOutOfBoundsException", Cond.initialized "java/lang/IndexOutOfBoundsException", Cond.fieldLink RX4 19 "ShareMover" "tree" "Ljava/util/ArrayList;", Cond.classLink RX4 30 "ShareMover$Folder", Cond.methodLink RX4 75 yJx4a65c_size_8abf5, Cond.instanceMethod yJx4a65c_size_8abf5, Cond.selects RJx4a65c yJx4a65c_size_8abf5 yJx4a65c_size_8abf5, Cond.initialized RJx4a65c, Cond.code yJx4a65c_size_8abf5 cJx4a65c_size_8abf5 1 (some .int), Cond.fieldLink RJx4a65c 48 "java/util/ArrayList" "size" "I", Cond.methodLink RX4 155 yJx4a65c_get_915e3, Cond.instanceMethod yJx4a65c_get_915e3, Cond.selects RJx4a65c yJx4a65c_get_915e3 yJx4a65c_get_915e3, Cond.code yJx4a65c_get_915e3 cJx4a65c_get_915e3 2 (some (.object "java/lang/Object")), Cond.methodLink RJx4a65c 118 yJ15_checkIndex_7cf53, Cond.static yJ15_checkIndex_7cf53, Cond.initialized RJ15, Cond.code yJ15_checkIndex_7cf53 cJ15_checkIndex_7cf53 2 (some .int), Cond.methodLink RJ15 105 yJ3_checkIndex_8e157, Cond.static yJ3_checkIndex_8e157, Cond.initialized RJ3, Cond.code yJ3_checkIndex_8e157 cJ3_checkIndex_8e157 3 (some .int), Cond.methodLink RJx4a65c 123 yJx4a65c_elementData_915e3, Cond.instanceMethod yJx4a65c_elementData_915e3]
def wsX4_folderAt_r2 : List Cond := [Cond.selects RJx4a65c yJx4a65c_elementData_915e3 yJx4a65c_elementData_915e3, Cond.code yJx4a65c_elementData_915e3 cJx4a65c_elementData_915e3 2 (some (.object "java/lang/Object")), Cond.fieldLink RJx4a65c 9 "java/util/ArrayList" "elementData" "[Ljava/lang/Object;"]
def wsX4_folderAt : List Cond := .code yX4_folderAt cX4_folderAt 2 (some (.object "ShareMover$Folder")) :: ((wsX4_folderAt_r1 ++ wsX4_folderAt_r2) ++ wsX40 ++ wsJx4a65c0 ++ (vx_atS RX4 93 "java/lang/IndexOutOfBoundsException" ["java/lang/RuntimeException", "java/lang/Exception"]).filter goodWord)
def wsX4_addFolder_r1 : List Cond := [Cond.classLink RX4 58 "java/lang/IllegalStateException", Cond.initialized "java/lang/IllegalStateException", Cond.fieldLink RX4 19 "ShareMover" "tree" "Ljava/util/ArrayList;", Cond.classLink RX4 30 RX1, Cond.instantiable RX1 7, Cond.initialized RX1, Cond.methodLink RX4 71 yX4_folderAt, Cond.instanceMethod yX4_folderAt, Cond.selects RX4 yX4_folderAt yX4_folderAt, Cond.initialized RX4, Cond.code yX4_folderAt cX4_folderAt 2 (some (.object "ShareMover$Folder")), Cond.classLink RX4 89 "java/lang/IndexOutOfBoundsException", Cond.initialized "java/lang/IndexOutOfBoundsException", Cond.classLink RX4 30 "ShareMover$Folder", Cond.methodLink RX4 75 yJx4a65c_size_8abf5, Cond.instanceMethod yJx4a65c_size_8abf5, Cond.selects RJx4a65c yJx4a65c_size_8abf5 yJx4a65c_size_8abf5, Cond.initialized RJx4a65c, Cond.code yJx4a65c_size_8abf5 cJx4a65c_size_8abf5 1 (some .int), Cond.fieldLink RJx4a65c 48 "java/util/ArrayList" "size" "I", Cond.methodLink RX4 155 yJx4a65c_get_915e3, Cond.instanceMethod yJx4a65c_get_915e3, Cond.selects RJx4a65c yJx4a65c_get_915e3 yJx4a65c_get_915e3, Cond.code yJx4a65c_get_915e3 cJx4a65c_get_915e3 2 (some (.object "java/lang/Object"))]
def wsX4_addFolder_r2 : List Cond := [Cond.methodLink RJx4a65c 118 yJ15_checkIndex_7cf53, Cond.static yJ15_checkIndex_7cf53, Cond.initialized RJ15, Cond.code yJ15_checkIndex_7cf53 cJ15_checkIndex_7cf53 2 (some .int), Cond.methodLink RJ15 105 yJ3_checkIndex_8e157, Cond.static yJ3_checkIndex_8e157, Cond.initialized RJ3, Cond.code yJ3_checkIndex_8e157 cJ3_checkIndex_8e157 3 (some .int), Cond.methodLink RJx4a65c 123 yJx4a65c_elementData_915e3, Cond.instanceMethod yJx4a65c_elementData_915e3, Cond.selects RJx4a65c yJx4a65c_elementData_915e3 yJx4a65c_elementData_915e3, Cond.code yJx4a65c_elementData_915e3 cJx4a65c_elementData_915e3 2 (some (.object "java/lang/Object")), Cond.fieldLink RJx4a65c 9 "java/util/ArrayList" "elementData" "[Ljava/lang/Object;", Cond.methodLink RX4 43 yX4_refuseNoPerson, Cond.static yX4_refuseNoPerson, Cond.code yX4_refuseNoPerson cX4_refuseNoPerson 1 none, Cond.methodLink RX4 32 yX1_init, Cond.instanceMethod yX1_init, Cond.code yX1_init cX1_init 3 none, Cond.methodLink RX1 3 objectInit, Cond.instanceMethod objectInit, Cond.code objectInit ⟨#[0xb1]⟩ 1 none, Cond.classLink RX1 9 RJx4a65c, Cond.instantiable RJx4a65c 3]
def wsX4_addFolder_r3 : List Cond := [Cond.fieldLink RX1 12 "ShareMover$Folder" "row" "Ljava/util/ArrayList;", Cond.arrayClass .int, Cond.fieldLink RX1 18 "ShareMover$Folder" "kept" "[I", Cond.fieldLink RX1 22 "ShareMover$Folder" "inherits" "Z", Cond.fieldLink RX1 26 "ShareMover$Folder" "hasKept" "Z", Cond.fieldLink RX1 29 "ShareMover$Folder" "switched" "Z", Cond.fieldLink RX1 32 "ShareMover$Folder" "parent" "LShareMover$Folder;", Cond.fieldLink RX1 36 "ShareMover$Folder" "owner" "I", Cond.methodLink RX1 11 yJx4a65c_init_da8c8, Cond.instanceMethod yJx4a65c_init_da8c8, Cond.code yJx4a65c_init_da8c8 cJx4a65c_init_da8c8 1 none, Cond.fieldLink RJx4a65c 39 "java/util/ArrayList" "DEFAULTCAPACITY_EMPTY_ELEMENTDATA" "[Ljava/lang/Object;", Cond.methodLink RJx4a65c 1 yJxc12de_init_da8c8, Cond.instanceMethod yJxc12de_init_da8c8, Cond.initialized RJxc12de, Cond.code yJxc12de_init_da8c8 cJxc12de_init_da8c8 1 none, Cond.fieldLink RJxc12de 7 "java/util/AbstractList" "modCount" "I", Cond.methodLink RJxc12de 1 yJxa1e45_init_da8c8, Cond.instanceMethod yJxa1e45_init_da8c8, Cond.initialized RJxa1e45, Cond.code yJxa1e45_init_da8c8 cJxa1e45_init_da8c8 1 none, Cond.methodLink RJxa1e45 1 objectInit, Cond.methodLink RX4 35 yJx4a65c_add_9ea2d, Cond.instanceMethod yJx4a65c_add_9ea2d]
def wsX4_addFolder_r4 : List Cond := [Cond.selects RJx4a65c yJx4a65c_add_9ea2d yJx4a65c_add_9ea2d, Cond.code yJx4a65c_add_9ea2d cJx4a65c_add_9ea2d 2 (some .boolean), Cond.fieldLink RJx4a65c 63 "java/util/ArrayList" "modCount" "I", Cond.sameField "java/util/ArrayList" "java/util/AbstractList" "modCount" "I", Cond.methodLink RJx4a65c 131 yJx4a65c_add_72be8, Cond.instanceMethod yJx4a65c_add_72be8, Cond.selects RJx4a65c yJx4a65c_add_72be8 yJx4a65c_add_72be8, Cond.code yJx4a65c_add_72be8 cJx4a65c_add_72be8 4 none, Cond.methodLink RJx4a65c 129 yJx4a65c_grow_d5877, Cond.instanceMethod yJx4a65c_grow_d5877, Cond.selects RJx4a65c yJx4a65c_grow_d5877 yJx4a65c_grow_d5877, Cond.code yJx4a65c_grow_d5877 cJx4a65c_grow_d5877 1 (some (.array (.object "java/lang/Object"))), Cond.methodLink RJx4a65c 69 yJx4a65c_grow_92f84, Cond.instanceMethod yJx4a65c_grow_92f84, Cond.selects RJx4a65c yJx4a65c_grow_92f84 yJx4a65c_grow_92f84, Cond.code yJx4a65c_grow_92f84 cJx4a65c_grow_92f84 4 (some (.array (.object "java/lang/Object"))), Cond.methodLink RJx4a65c 79 Lib.Math.max.name, Cond.static Lib.Math.max.name, Cond.initialized "java/lang/Math", Cond.code Lib.Math.max.name Lib.Math.max.code 2 (some .int), Cond.classLink RJx4a65c 7 "java/lang/Object", Cond.methodLink RJx4a65c 73 yJ8_newLength_cabcc, Cond.static yJ8_newLength_cabcc, Cond.initialized RJ8]
def wsX4_addFolder_r5 : List Cond := [Cond.code yJ8_newLength_cabcc cJ8_newLength_cabcc 4 (some .int), Cond.methodLink RJ8 194 Lib.Math.max.name, Cond.constant RJ8 200 (2147483639), Cond.methodLink RJ8 201 yJ8_hugeLength_7cf53, Cond.static yJ8_hugeLength_7cf53, Cond.code yJ8_hugeLength_7cf53 cJ8_hugeLength_7cf53 3 (some .int), Cond.methodLink RJx4a65c 66 yJ7_copyOf_1904c, Cond.static yJ7_copyOf_1904c, Cond.initialized RJ7, Cond.code yJ7_copyOf_1904c cJ7_copyOf_1904c 2 (some (.array (.object "java/lang/Object"))), Cond.methodLink RJ7 86 ⟨"java/lang/Object", "getClass", "()Ljava/lang/Class;"⟩, Cond.selects "[Ljava/lang/Object;" ⟨"java/lang/Object", "getClass", "()Ljava/lang/Class;"⟩ ⟨"java/lang/Object", "getClass", "()Ljava/lang/Class;"⟩, Cond.instanceMethod ⟨"java/lang/Object", "getClass", "()Ljava/lang/Class;"⟩, Cond.native ⟨"java/lang/Object", "getClass", "()Ljava/lang/Class;"⟩, Cond.methodLink RJ7 300 yJ7_copyOf_6403c, Cond.static yJ7_copyOf_6403c, Cond.code yJ7_copyOf_6403c cJ7_copyOf_6403c 4 (some (.array (.object "java/lang/Object"))), Cond.classLink RJ7 110 "[Ljava/lang/Object;", Cond.classLink RJ7 2 "java/lang/Object", Cond.methodLink RJ7 304 Lib.Math.min.name, Cond.static Lib.Math.min.name, Cond.code Lib.Math.min.name Lib.Math.min.code 2 (some .int), Cond.methodLink RJ7 150 arraycopyName, Cond.native arraycopyName]
def wsX4_addFolder_r6 : List Cond := [Cond.static arraycopyName, Cond.initialized "java/lang/System"]
def wsX4_addFolder : List Cond := .code yX4_addFolder cX4_addFolder 4 (some .int) :: ((wsX4_addFolder_r1 ++ (wsX4_addFolder_r2 ++ (wsX4_addFolder_r3 ++ (wsX4_addFolder_r4 ++ (wsX4_addFolder_r5 ++ wsX4_addFolder_r6))))) ++ wsX40 ++ wsX10 ++ wsJx4a65c0 ++ (vx_atS RX4 62 "java/lang/IllegalStateException" ["java/lang/RuntimeException", "java/lang/Exception"]).filter goodWord ++ (vx_atS RX4 93 "java/lang/IndexOutOfBoundsException" ["java/lang/RuntimeException", "java/lang/Exception"]).filter goodWord)
def wsX4_setOwner_r1 : List Cond := [Cond.fieldLink RX4 81 "ShareMover$Folder" "owner" "I", Cond.methodLink RX4 71 yX4_folderAt, Cond.instanceMethod yX4_folderAt, Cond.selects RX4 yX4_folderAt yX4_folderAt, Cond.initialized RX4, Cond.code yX4_folderAt cX4_folderAt 2 (some (.object "ShareMover$Folder")), Cond.classLink RX4 89 "java/lang/IndexOutOfBoundsException", Cond.initialized "java/lang/IndexOutOfBoundsException", Cond.fieldLink RX4 19 "ShareMover" "tree" "Ljava/util/ArrayList;", Cond.classLink RX4 30 "ShareMover$Folder", Cond.methodLink RX4 75 yJx4a65c_size_8abf5, Cond.instanceMethod yJx4a65c_size_8abf5, Cond.selects RJx4a65c yJx4a65c_size_8abf5 yJx4a65c_size_8abf5, Cond.initialized RJx4a65c, Cond.code yJx4a65c_size_8abf5 cJx4a65c_size_8abf5 1 (some .int), Cond.fieldLink RJx4a65c 48 "java/util/ArrayList" "size" "I", Cond.methodLink RX4 155 yJx4a65c_get_915e3, Cond.instanceMethod yJx4a65c_get_915e3, Cond.selects RJx4a65c yJx4a65c_get_915e3 yJx4a65c_get_915e3, Cond.code yJx4a65c_get_915e3 cJx4a65c_get_915e3 2 (some (.object "java/lang/Object")), Cond.methodLink RJx4a65c 118 yJ15_checkIndex_7cf53, Cond.static yJ15_checkIndex_7cf53, Cond.initialized RJ15, Cond.code yJ15_checkIndex_7cf53 cJ15_checkIndex_7cf53 2 (some .int)]
def wsX4_setOwner_r2 : List Cond := [Cond.methodLink RJ15 105 yJ3_checkIndex_8e157, Cond.static yJ3_checkIndex_8e157, Cond.initialized RJ3, Cond.code yJ3_checkIndex_8e157 cJ3_checkIndex_8e157 3 (some .int), Cond.methodLink RJx4a65c 123 yJx4a65c_elementData_915e3, Cond.instanceMethod yJx4a65c_elementData_915e3, Cond.selects RJx4a65c yJx4a65c_elementData_915e3 yJx4a65c_elementData_915e3, Cond.code yJx4a65c_elementData_915e3 cJx4a65c_elementData_915e3 2 (some (.object "java/lang/Object")), Cond.fieldLink RJx4a65c 9 "java/util/ArrayList" "elementData" "[Ljava/lang/Object;", Cond.methodLink RX4 43 yX4_refuseNoPerson, Cond.static yX4_refuseNoPerson, Cond.code yX4_refuseNoPerson cX4_refuseNoPerson 1 none]
def wsX4_setOwner : List Cond := .code yX4_setOwner cX4_setOwner 5 (some .int) :: ((wsX4_setOwner_r1 ++ wsX4_setOwner_r2) ++ wsX10 ++ wsX40 ++ wsJx4a65c0 ++ (vx_atS RX4 93 "java/lang/IndexOutOfBoundsException" ["java/lang/RuntimeException", "java/lang/Exception"]).filter goodWord)
def wsX4_setInherits_r1 : List Cond := [Cond.fieldLink RX4 85 "ShareMover$Folder" "inherits" "Z", Cond.methodLink RX4 71 yX4_folderAt, Cond.instanceMethod yX4_folderAt, Cond.selects RX4 yX4_folderAt yX4_folderAt, Cond.initialized RX4, Cond.code yX4_folderAt cX4_folderAt 2 (some (.object "ShareMover$Folder")), Cond.classLink RX4 89 "java/lang/IndexOutOfBoundsException", Cond.initialized "java/lang/IndexOutOfBoundsException", Cond.fieldLink RX4 19 "ShareMover" "tree" "Ljava/util/ArrayList;", Cond.classLink RX4 30 "ShareMover$Folder", Cond.methodLink RX4 75 yJx4a65c_size_8abf5, Cond.instanceMethod yJx4a65c_size_8abf5, Cond.selects RJx4a65c yJx4a65c_size_8abf5 yJx4a65c_size_8abf5, Cond.initialized RJx4a65c, Cond.code yJx4a65c_size_8abf5 cJx4a65c_size_8abf5 1 (some .int), Cond.fieldLink RJx4a65c 48 "java/util/ArrayList" "size" "I", Cond.methodLink RX4 155 yJx4a65c_get_915e3, Cond.instanceMethod yJx4a65c_get_915e3, Cond.selects RJx4a65c yJx4a65c_get_915e3 yJx4a65c_get_915e3, Cond.code yJx4a65c_get_915e3 cJx4a65c_get_915e3 2 (some (.object "java/lang/Object")), Cond.methodLink RJx4a65c 118 yJ15_checkIndex_7cf53, Cond.static yJ15_checkIndex_7cf53, Cond.initialized RJ15, Cond.code yJ15_checkIndex_7cf53 cJ15_checkIndex_7cf53 2 (some .int)]
def wsX4_setInherits_r2 : List Cond := [Cond.methodLink RJ15 105 yJ3_checkIndex_8e157, Cond.static yJ3_checkIndex_8e157, Cond.initialized RJ3, Cond.code yJ3_checkIndex_8e157 cJ3_checkIndex_8e157 3 (some .int), Cond.methodLink RJx4a65c 123 yJx4a65c_elementData_915e3, Cond.instanceMethod yJx4a65c_elementData_915e3, Cond.selects RJx4a65c yJx4a65c_elementData_915e3 yJx4a65c_elementData_915e3, Cond.code yJx4a65c_elementData_915e3 cJx4a65c_elementData_915e3 2 (some (.object "java/lang/Object")), Cond.fieldLink RJx4a65c 9 "java/util/ArrayList" "elementData" "[Ljava/lang/Object;"]
def wsX4_setInherits : List Cond := .code yX4_setInherits cX4_setInherits 5 (some .boolean) :: ((wsX4_setInherits_r1 ++ wsX4_setInherits_r2) ++ wsX10 ++ wsX40 ++ wsJx4a65c0 ++ (vx_atS RX4 93 "java/lang/IndexOutOfBoundsException" ["java/lang/RuntimeException", "java/lang/Exception"]).filter goodWord)
def wsX4_allow_r1 : List Cond := [Cond.classLink RX4 89 "java/lang/IndexOutOfBoundsException", Cond.initialized "java/lang/IndexOutOfBoundsException", Cond.classLink RX4 94 "java/lang/IllegalArgumentException", Cond.initialized "java/lang/IllegalArgumentException", Cond.classLink RX4 58 "java/lang/IllegalStateException", Cond.initialized "java/lang/IllegalStateException", Cond.fieldLink RX4 99 "ShareMover$Folder" "row" "Ljava/util/ArrayList;", Cond.classLink RX4 104 RX0, Cond.instantiable RX0 4, Cond.initialized RX0, Cond.methodLink RX4 71 yX4_folderAt, Cond.instanceMethod yX4_folderAt, Cond.selects RX4 yX4_folderAt yX4_folderAt, Cond.initialized RX4, Cond.code yX4_folderAt cX4_folderAt 2 (some (.object "ShareMover$Folder")), Cond.fieldLink RX4 19 "ShareMover" "tree" "Ljava/util/ArrayList;", Cond.classLink RX4 30 "ShareMover$Folder", Cond.methodLink RX4 75 yJx4a65c_size_8abf5, Cond.instanceMethod yJx4a65c_size_8abf5, Cond.selects RJx4a65c yJx4a65c_size_8abf5 yJx4a65c_size_8abf5, Cond.initialized RJx4a65c, Cond.code yJx4a65c_size_8abf5 cJx4a65c_size_8abf5 1 (some .int), Cond.fieldLink RJx4a65c 48 "java/util/ArrayList" "size" "I", Cond.methodLink RX4 155 yJx4a65c_get_915e3]
def wsX4_allow_r2 : List Cond := [Cond.instanceMethod yJx4a65c_get_915e3, Cond.selects RJx4a65c yJx4a65c_get_915e3 yJx4a65c_get_915e3, Cond.code yJx4a65c_get_915e3 cJx4a65c_get_915e3 2 (some (.object "java/lang/Object")), Cond.methodLink RJx4a65c 118 yJ15_checkIndex_7cf53, Cond.static yJ15_checkIndex_7cf53, Cond.initialized RJ15, Cond.code yJ15_checkIndex_7cf53 cJ15_checkIndex_7cf53 2 (some .int), Cond.methodLink RJ15 105 yJ3_checkIndex_8e157, Cond.static yJ3_checkIndex_8e157, Cond.initialized RJ3, Cond.code yJ3_checkIndex_8e157 cJ3_checkIndex_8e157 3 (some .int), Cond.methodLink RJx4a65c 123 yJx4a65c_elementData_915e3, Cond.instanceMethod yJx4a65c_elementData_915e3, Cond.selects RJx4a65c yJx4a65c_elementData_915e3 yJx4a65c_elementData_915e3, Cond.code yJx4a65c_elementData_915e3 cJx4a65c_elementData_915e3 2 (some (.object "java/lang/Object")), Cond.fieldLink RJx4a65c 9 "java/util/ArrayList" "elementData" "[Ljava/lang/Object;", Cond.methodLink RX4 106 yX0_init, Cond.instanceMethod yX0_init, Cond.code yX0_init cX0_init 5 none, Cond.methodLink RX0 3 objectInit, Cond.instanceMethod objectInit, Cond.code objectInit ⟨#[0xb1]⟩ 1 none, Cond.fieldLink RX0 9 "ShareMover$Entry" "who" "I", Cond.fieldLink RX0 15 "ShareMover$Entry" "allows" "Z"]
def wsX4_allow_r3 : List Cond := [Cond.fieldLink RX0 19 "ShareMover$Entry" "rights" "I", Cond.fieldLink RX0 22 "ShareMover$Entry" "scope" "I", Cond.methodLink RX4 35 yJx4a65c_add_9ea2d, Cond.instanceMethod yJx4a65c_add_9ea2d, Cond.selects RJx4a65c yJx4a65c_add_9ea2d yJx4a65c_add_9ea2d, Cond.code yJx4a65c_add_9ea2d cJx4a65c_add_9ea2d 2 (some .boolean), Cond.fieldLink RJx4a65c 63 "java/util/ArrayList" "modCount" "I", Cond.sameField "java/util/ArrayList" "java/util/AbstractList" "modCount" "I", Cond.methodLink RJx4a65c 131 yJx4a65c_add_72be8, Cond.instanceMethod yJx4a65c_add_72be8, Cond.selects RJx4a65c yJx4a65c_add_72be8 yJx4a65c_add_72be8, Cond.code yJx4a65c_add_72be8 cJx4a65c_add_72be8 4 none, Cond.methodLink RJx4a65c 129 yJx4a65c_grow_d5877, Cond.instanceMethod yJx4a65c_grow_d5877, Cond.selects RJx4a65c yJx4a65c_grow_d5877 yJx4a65c_grow_d5877, Cond.code yJx4a65c_grow_d5877 cJx4a65c_grow_d5877 1 (some (.array (.object "java/lang/Object"))), Cond.methodLink RJx4a65c 69 yJx4a65c_grow_92f84, Cond.instanceMethod yJx4a65c_grow_92f84, Cond.selects RJx4a65c yJx4a65c_grow_92f84 yJx4a65c_grow_92f84, Cond.code yJx4a65c_grow_92f84 cJx4a65c_grow_92f84 4 (some (.array (.object "java/lang/Object"))), Cond.fieldLink RJx4a65c 39 "java/util/ArrayList" "DEFAULTCAPACITY_EMPTY_ELEMENTDATA" "[Ljava/lang/Object;", Cond.methodLink RJx4a65c 79 Lib.Math.max.name, Cond.static Lib.Math.max.name, Cond.initialized "java/lang/Math"]
def wsX4_allow_r4 : List Cond := [Cond.code Lib.Math.max.name Lib.Math.max.code 2 (some .int), Cond.classLink RJx4a65c 7 "java/lang/Object", Cond.methodLink RJx4a65c 73 yJ8_newLength_cabcc, Cond.static yJ8_newLength_cabcc, Cond.initialized RJ8, Cond.code yJ8_newLength_cabcc cJ8_newLength_cabcc 4 (some .int), Cond.methodLink RJ8 194 Lib.Math.max.name, Cond.constant RJ8 200 (2147483639), Cond.methodLink RJ8 201 yJ8_hugeLength_7cf53, Cond.static yJ8_hugeLength_7cf53, Cond.code yJ8_hugeLength_7cf53 cJ8_hugeLength_7cf53 3 (some .int), Cond.methodLink RJx4a65c 66 yJ7_copyOf_1904c, Cond.static yJ7_copyOf_1904c, Cond.initialized RJ7, Cond.code yJ7_copyOf_1904c cJ7_copyOf_1904c 2 (some (.array (.object "java/lang/Object"))), Cond.methodLink RJ7 86 ⟨"java/lang/Object", "getClass", "()Ljava/lang/Class;"⟩, Cond.selects "[Ljava/lang/Object;" ⟨"java/lang/Object", "getClass", "()Ljava/lang/Class;"⟩ ⟨"java/lang/Object", "getClass", "()Ljava/lang/Class;"⟩, Cond.instanceMethod ⟨"java/lang/Object", "getClass", "()Ljava/lang/Class;"⟩, Cond.native ⟨"java/lang/Object", "getClass", "()Ljava/lang/Class;"⟩, Cond.methodLink RJ7 300 yJ7_copyOf_6403c, Cond.static yJ7_copyOf_6403c, Cond.code yJ7_copyOf_6403c cJ7_copyOf_6403c 4 (some (.array (.object "java/lang/Object"))), Cond.classLink RJ7 110 "[Ljava/lang/Object;", Cond.classLink RJ7 2 "java/lang/Object"]
def wsX4_allow_r5 : List Cond := [Cond.methodLink RJ7 304 Lib.Math.min.name, Cond.static Lib.Math.min.name, Cond.code Lib.Math.min.name Lib.Math.min.code 2 (some .int), Cond.methodLink RJ7 150 arraycopyName, Cond.native arraycopyName, Cond.static arraycopyName, Cond.initialized "java/lang/System"]
def wsX4_allow : List Cond := .code yX4_allow cX4_allow 7 (some .int) :: ((wsX4_allow_r1 ++ (wsX4_allow_r2 ++ (wsX4_allow_r3 ++ (wsX4_allow_r4 ++ wsX4_allow_r5)))) ++ wsX10 ++ wsX00 ++ wsX40 ++ wsJx4a65c0 ++ (vx_atS RX4 93 "java/lang/IndexOutOfBoundsException" ["java/lang/RuntimeException", "java/lang/Exception"]).filter goodWord ++ (vx_atS RX4 98 "java/lang/IllegalArgumentException" ["java/lang/RuntimeException", "java/lang/Exception"]).filter goodWord ++ (vx_atS RX4 62 "java/lang/IllegalStateException" ["java/lang/RuntimeException", "java/lang/Exception"]).filter goodWord)
def wsJx4a65c_fastRemove_b59b0 : List Cond := .code yJx4a65c_fastRemove_b59b0 cJx4a65c_fastRemove_b59b0 4 none :: ([.fieldLink RJx4a65c 63 "java/util/ArrayList" "modCount" "I", .sameField "java/util/ArrayList" "java/util/AbstractList" "modCount" "I", .fieldLink RJx4a65c 48 "java/util/ArrayList" "size" "I", .methodLink RJx4a65c 112 arraycopyName, .native arraycopyName, .static arraycopyName, .initialized "java/lang/System"] ++ wsJx4a65c0)
def wsJx4a65c_remove_915e3 : List Cond := .code yJx4a65c_remove_915e3 cJx4a65c_remove_915e3 4 (some (.object "java/lang/Object")) :: ([.fieldLink RJx4a65c 48 "java/util/ArrayList" "size" "I", .fieldLink RJx4a65c 9 "java/util/ArrayList" "elementData" "[Ljava/lang/Object;", .methodLink RJx4a65c 118 yJ15_checkIndex_7cf53, .static yJ15_checkIndex_7cf53, .initialized RJ15, .code yJ15_checkIndex_7cf53 cJ15_checkIndex_7cf53 2 (some .int), .methodLink RJ15 105 yJ3_checkIndex_8e157, .static yJ3_checkIndex_8e157, .initialized RJ3, .code yJ3_checkIndex_8e157 cJ3_checkIndex_8e157 3 (some .int), .methodLink RJx4a65c 144 yJx4a65c_fastRemove_b59b0, .instanceMethod yJx4a65c_fastRemove_b59b0, .selects RJx4a65c yJx4a65c_fastRemove_b59b0 yJx4a65c_fastRemove_b59b0, .initialized RJx4a65c, .code yJx4a65c_fastRemove_b59b0 cJx4a65c_fastRemove_b59b0 4 none, .fieldLink RJx4a65c 63 "java/util/ArrayList" "modCount" "I", .sameField "java/util/ArrayList" "java/util/AbstractList" "modCount" "I", .methodLink RJx4a65c 112 arraycopyName, .native arraycopyName, .static arraycopyName, .initialized "java/lang/System"] ++ wsJx4a65c0)
def wsX4_drop_r1 : List Cond := [Cond.classLink RX4 89 "java/lang/IndexOutOfBoundsException", Cond.initialized "java/lang/IndexOutOfBoundsException", Cond.fieldLink RX4 99 "ShareMover$Folder" "row" "Ljava/util/ArrayList;", Cond.classLink RX4 104 "ShareMover$Entry", Cond.fieldLink RX4 115 "ShareMover$Entry" "rights" "I", Cond.methodLink RX4 71 yX4_folderAt, Cond.instanceMethod yX4_folderAt, Cond.selects RX4 yX4_folderAt yX4_folderAt, Cond.initialized RX4, Cond.code yX4_folderAt cX4_folderAt 2 (some (.object "ShareMover$Folder")), Cond.fieldLink RX4 19 "ShareMover" "tree" "Ljava/util/ArrayList;", Cond.classLink RX4 30 "ShareMover$Folder", Cond.methodLink RX4 75 yJx4a65c_size_8abf5, Cond.instanceMethod yJx4a65c_size_8abf5, Cond.selects RJx4a65c yJx4a65c_size_8abf5 yJx4a65c_size_8abf5, Cond.initialized RJx4a65c, Cond.code yJx4a65c_size_8abf5 cJx4a65c_size_8abf5 1 (some .int), Cond.fieldLink RJx4a65c 48 "java/util/ArrayList" "size" "I", Cond.methodLink RX4 155 yJx4a65c_get_915e3, Cond.instanceMethod yJx4a65c_get_915e3, Cond.selects RJx4a65c yJx4a65c_get_915e3 yJx4a65c_get_915e3, Cond.code yJx4a65c_get_915e3 cJx4a65c_get_915e3 2 (some (.object "java/lang/Object")), Cond.methodLink RJx4a65c 118 yJ15_checkIndex_7cf53, Cond.static yJ15_checkIndex_7cf53]
def wsX4_drop_r2 : List Cond := [Cond.initialized RJ15, Cond.code yJ15_checkIndex_7cf53 cJ15_checkIndex_7cf53 2 (some .int), Cond.methodLink RJ15 105 yJ3_checkIndex_8e157, Cond.static yJ3_checkIndex_8e157, Cond.initialized RJ3, Cond.code yJ3_checkIndex_8e157 cJ3_checkIndex_8e157 3 (some .int), Cond.methodLink RJx4a65c 123 yJx4a65c_elementData_915e3, Cond.instanceMethod yJx4a65c_elementData_915e3, Cond.selects RJx4a65c yJx4a65c_elementData_915e3 yJx4a65c_elementData_915e3, Cond.code yJx4a65c_elementData_915e3 cJx4a65c_elementData_915e3 2 (some (.object "java/lang/Object")), Cond.fieldLink RJx4a65c 9 "java/util/ArrayList" "elementData" "[Ljava/lang/Object;", Cond.methodLink RX4 111 yJx4a65c_remove_915e3, Cond.instanceMethod yJx4a65c_remove_915e3, Cond.selects RJx4a65c yJx4a65c_remove_915e3 yJx4a65c_remove_915e3, Cond.code yJx4a65c_remove_915e3 cJx4a65c_remove_915e3 4 (some (.object "java/lang/Object")), Cond.methodLink RJx4a65c 144 yJx4a65c_fastRemove_b59b0, Cond.instanceMethod yJx4a65c_fastRemove_b59b0, Cond.selects RJx4a65c yJx4a65c_fastRemove_b59b0 yJx4a65c_fastRemove_b59b0, Cond.code yJx4a65c_fastRemove_b59b0 cJx4a65c_fastRemove_b59b0 4 none, Cond.fieldLink RJx4a65c 63 "java/util/ArrayList" "modCount" "I", Cond.sameField "java/util/ArrayList" "java/util/AbstractList" "modCount" "I", Cond.methodLink RJx4a65c 112 arraycopyName, Cond.native arraycopyName, Cond.static arraycopyName]
def wsX4_drop_r3 : List Cond := [Cond.initialized "java/lang/System"]
def wsX4_drop : List Cond := .code yX4_drop cX4_drop 4 (some .int) :: ((wsX4_drop_r1 ++ (wsX4_drop_r2 ++ wsX4_drop_r3)) ++ wsX10 ++ wsX00 ++ wsX40 ++ wsJx4a65c0 ++ (vx_atS RX4 93 "java/lang/IndexOutOfBoundsException" ["java/lang/RuntimeException", "java/lang/Exception"]).filter goodWord)
def wsX4_folders : List Cond := .code yX4_folders cX4_folders 1 (some .int) :: ([.fieldLink RX4 19 "ShareMover" "tree" "Ljava/util/ArrayList;", .methodLink RX4 75 yJx4a65c_size_8abf5, .instanceMethod yJx4a65c_size_8abf5, .selects RJx4a65c yJx4a65c_size_8abf5 yJx4a65c_size_8abf5, .initialized RJx4a65c, .code yJx4a65c_size_8abf5 cJx4a65c_size_8abf5 1 (some .int), .fieldLink RJx4a65c 48 "java/util/ArrayList" "size" "I"] ++ wsX40 ++ wsJx4a65c0)
def wsX4_isFor : List Cond := .code yX4_isFor cX4_isFor 3 (some .boolean) :: ([.fieldLink RX4 182 "ShareMover$Entry" "who" "I", .fieldLink RX4 12 "ShareMover" "groups" "LShareMover$Groups;", .methodLink RX4 68 yX2_everyoneIn, .instanceMethod yX2_everyoneIn, .selects RX2 yX2_everyoneIn yX2_everyoneIn, .initialized RX2, .code yX2_everyoneIn cX2_everyoneIn 2 (some .int), .fieldLink RX2 18 "ShareMover$Groups" "everyone" "[I", .methodLink RX4 54 yX4_contains, .static yX4_contains, .initialized RX4, .code yX4_contains cX4_contains 2 (some .boolean)] ++ wsX00 ++ wsX40 ++ wsX20)
def wsX4_rightsByEntries_r1 : List Cond := [Cond.fieldLink RX4 81 "ShareMover$Folder" "owner" "I", Cond.fieldLink RX4 99 "ShareMover$Folder" "row" "Ljava/util/ArrayList;", Cond.classLink RX4 104 "ShareMover$Entry", Cond.fieldLink RX4 193 "ShareMover$Entry" "allows" "Z", Cond.fieldLink RX4 115 "ShareMover$Entry" "rights" "I", Cond.methodLink RX4 75 yJx4a65c_size_8abf5, Cond.instanceMethod yJx4a65c_size_8abf5, Cond.selects RJx4a65c yJx4a65c_size_8abf5 yJx4a65c_size_8abf5, Cond.initialized RJx4a65c, Cond.code yJx4a65c_size_8abf5 cJx4a65c_size_8abf5 1 (some .int), Cond.fieldLink RJx4a65c 48 "java/util/ArrayList" "size" "I", Cond.methodLink RX4 155 yJx4a65c_get_915e3, Cond.instanceMethod yJx4a65c_get_915e3, Cond.selects RJx4a65c yJx4a65c_get_915e3 yJx4a65c_get_915e3, Cond.code yJx4a65c_get_915e3 cJx4a65c_get_915e3 2 (some (.object "java/lang/Object")), Cond.methodLink RJx4a65c 118 yJ15_checkIndex_7cf53, Cond.static yJ15_checkIndex_7cf53, Cond.initialized RJ15, Cond.code yJ15_checkIndex_7cf53 cJ15_checkIndex_7cf53 2 (some .int), Cond.methodLink RJ15 105 yJ3_checkIndex_8e157, Cond.static yJ3_checkIndex_8e157, Cond.initialized RJ3, Cond.code yJ3_checkIndex_8e157 cJ3_checkIndex_8e157 3 (some .int), Cond.methodLink RJx4a65c 123 yJx4a65c_elementData_915e3]
def wsX4_rightsByEntries_r2 : List Cond := [Cond.instanceMethod yJx4a65c_elementData_915e3, Cond.selects RJx4a65c yJx4a65c_elementData_915e3 yJx4a65c_elementData_915e3, Cond.code yJx4a65c_elementData_915e3 cJx4a65c_elementData_915e3 2 (some (.object "java/lang/Object")), Cond.fieldLink RJx4a65c 9 "java/util/ArrayList" "elementData" "[Ljava/lang/Object;", Cond.methodLink RX4 185 yX0_counts, Cond.instanceMethod yX0_counts, Cond.selects RX0 yX0_counts yX0_counts, Cond.initialized RX0, Cond.code yX0_counts cX0_counts 2 (some .boolean), Cond.fieldLink RX0 22 "ShareMover$Entry" "scope" "I", Cond.methodLink RX4 189 yX4_isFor, Cond.instanceMethod yX4_isFor, Cond.selects RX4 yX4_isFor yX4_isFor, Cond.initialized RX4, Cond.code yX4_isFor cX4_isFor 3 (some .boolean), Cond.fieldLink RX4 182 "ShareMover$Entry" "who" "I", Cond.fieldLink RX4 12 "ShareMover" "groups" "LShareMover$Groups;", Cond.methodLink RX4 68 yX2_everyoneIn, Cond.instanceMethod yX2_everyoneIn, Cond.selects RX2 yX2_everyoneIn yX2_everyoneIn, Cond.initialized RX2, Cond.code yX2_everyoneIn cX2_everyoneIn 2 (some .int), Cond.fieldLink RX2 18 "ShareMover$Groups" "everyone" "[I", Cond.methodLink RX4 54 yX4_contains]
def wsX4_rightsByEntries_r3 : List Cond := [Cond.static yX4_contains, Cond.code yX4_contains cX4_contains 2 (some .boolean), Cond.methodLink RX4 196 yX1_inheritsFrom, Cond.instanceMethod yX1_inheritsFrom, Cond.selects RX1 yX1_inheritsFrom yX1_inheritsFrom, Cond.initialized RX1, Cond.code yX1_inheritsFrom cX1_inheritsFrom 1 (some (.object "ShareMover$Folder")), Cond.fieldLink RX1 22 "ShareMover$Folder" "inherits" "Z", Cond.fieldLink RX1 32 "ShareMover$Folder" "parent" "LShareMover$Folder;"]
def wsX4_rightsByEntries : List Cond := .code yX4_rightsByEntries cX4_rightsByEntries 8 (some .int) :: ((wsX4_rightsByEntries_r1 ++ (wsX4_rightsByEntries_r2 ++ wsX4_rightsByEntries_r3)) ++ wsX10 ++ wsX00 ++ wsJx4a65c0 ++ wsX40 ++ wsX20)
def wsX4_rights_r1 : List Cond := [Cond.methodLink RX4 43 yX4_refuseNoPerson, Cond.static yX4_refuseNoPerson, Cond.initialized RX4, Cond.code yX4_refuseNoPerson cX4_refuseNoPerson 1 none, Cond.classLink RX4 89 "java/lang/IndexOutOfBoundsException", Cond.initialized "java/lang/IndexOutOfBoundsException", Cond.methodLink RX4 71 yX4_folderAt, Cond.instanceMethod yX4_folderAt, Cond.selects RX4 yX4_folderAt yX4_folderAt, Cond.code yX4_folderAt cX4_folderAt 2 (some (.object "ShareMover$Folder")), Cond.fieldLink RX4 19 "ShareMover" "tree" "Ljava/util/ArrayList;", Cond.classLink RX4 30 "ShareMover$Folder", Cond.methodLink RX4 75 yJx4a65c_size_8abf5, Cond.instanceMethod yJx4a65c_size_8abf5, Cond.selects RJx4a65c yJx4a65c_size_8abf5 yJx4a65c_size_8abf5, Cond.initialized RJx4a65c, Cond.code yJx4a65c_size_8abf5 cJx4a65c_size_8abf5 1 (some .int), Cond.fieldLink RJx4a65c 48 "java/util/ArrayList" "size" "I", Cond.methodLink RX4 155 yJx4a65c_get_915e3, Cond.instanceMethod yJx4a65c_get_915e3, Cond.selects RJx4a65c yJx4a65c_get_915e3 yJx4a65c_get_915e3, Cond.code yJx4a65c_get_915e3 cJx4a65c_get_915e3 2 (some (.object "java/lang/Object")), Cond.methodLink RJx4a65c 118 yJ15_checkIndex_7cf53, Cond.static yJ15_checkIndex_7cf53]
def wsX4_rights_r2 : List Cond := [Cond.initialized RJ15, Cond.code yJ15_checkIndex_7cf53 cJ15_checkIndex_7cf53 2 (some .int), Cond.methodLink RJ15 105 yJ3_checkIndex_8e157, Cond.static yJ3_checkIndex_8e157, Cond.initialized RJ3, Cond.code yJ3_checkIndex_8e157 cJ3_checkIndex_8e157 3 (some .int), Cond.methodLink RJx4a65c 123 yJx4a65c_elementData_915e3, Cond.instanceMethod yJx4a65c_elementData_915e3, Cond.selects RJx4a65c yJx4a65c_elementData_915e3 yJx4a65c_elementData_915e3, Cond.code yJx4a65c_elementData_915e3 cJx4a65c_elementData_915e3 2 (some (.object "java/lang/Object")), Cond.fieldLink RJx4a65c 9 "java/util/ArrayList" "elementData" "[Ljava/lang/Object;", Cond.methodLink RX4 118 yX4_rightsByEntries, Cond.instanceMethod yX4_rightsByEntries, Cond.selects RX4 yX4_rightsByEntries yX4_rightsByEntries, Cond.code yX4_rightsByEntries cX4_rightsByEntries 8 (some .int), Cond.fieldLink RX4 81 "ShareMover$Folder" "owner" "I", Cond.fieldLink RX4 99 "ShareMover$Folder" "row" "Ljava/util/ArrayList;", Cond.classLink RX4 104 "ShareMover$Entry", Cond.fieldLink RX4 193 "ShareMover$Entry" "allows" "Z", Cond.fieldLink RX4 115 "ShareMover$Entry" "rights" "I", Cond.methodLink RX4 185 yX0_counts, Cond.instanceMethod yX0_counts, Cond.selects RX0 yX0_counts yX0_counts, Cond.initialized RX0]
def wsX4_rights_r3 : List Cond := [Cond.code yX0_counts cX0_counts 2 (some .boolean), Cond.fieldLink RX0 22 "ShareMover$Entry" "scope" "I", Cond.methodLink RX4 189 yX4_isFor, Cond.instanceMethod yX4_isFor, Cond.selects RX4 yX4_isFor yX4_isFor, Cond.code yX4_isFor cX4_isFor 3 (some .boolean), Cond.fieldLink RX4 182 "ShareMover$Entry" "who" "I", Cond.fieldLink RX4 12 "ShareMover" "groups" "LShareMover$Groups;", Cond.methodLink RX4 68 yX2_everyoneIn, Cond.instanceMethod yX2_everyoneIn, Cond.selects RX2 yX2_everyoneIn yX2_everyoneIn, Cond.initialized RX2, Cond.code yX2_everyoneIn cX2_everyoneIn 2 (some .int), Cond.fieldLink RX2 18 "ShareMover$Groups" "everyone" "[I", Cond.methodLink RX4 54 yX4_contains, Cond.static yX4_contains, Cond.code yX4_contains cX4_contains 2 (some .boolean), Cond.methodLink RX4 196 yX1_inheritsFrom, Cond.instanceMethod yX1_inheritsFrom, Cond.selects RX1 yX1_inheritsFrom yX1_inheritsFrom, Cond.initialized RX1, Cond.code yX1_inheritsFrom cX1_inheritsFrom 1 (some (.object "ShareMover$Folder")), Cond.fieldLink RX1 22 "ShareMover$Folder" "inherits" "Z", Cond.fieldLink RX1 32 "ShareMover$Folder" "parent" "LShareMover$Folder;"]
def wsX4_rights : List Cond := .code yX4_rights cX4_rights 3 (some .int) :: ((wsX4_rights_r1 ++ (wsX4_rights_r2 ++ wsX4_rights_r3)) ++ wsX40 ++ wsJx4a65c0 ++ wsX10 ++ wsX00 ++ wsX20 ++ (vx_atS RX4 93 "java/lang/IndexOutOfBoundsException" ["java/lang/RuntimeException", "java/lang/Exception"]).filter goodWord)
def wsX4_rightsByOverruling_r1 : List Cond := [Cond.fieldLink RX4 81 "ShareMover$Folder" "owner" "I", Cond.fieldLink RX4 99 "ShareMover$Folder" "row" "Ljava/util/ArrayList;", Cond.classLink RX4 104 "ShareMover$Entry", Cond.fieldLink RX4 193 "ShareMover$Entry" "allows" "Z", Cond.fieldLink RX4 115 "ShareMover$Entry" "rights" "I", Cond.methodLink RX4 200 yX1_levelsInherited, Cond.instanceMethod yX1_levelsInherited, Cond.selects RX1 yX1_levelsInherited yX1_levelsInherited, Cond.initialized RX1, Cond.code yX1_levelsInherited cX1_levelsInherited 3 (some .int), Cond.methodLink RX1 40 yX1_inheritsFrom, Cond.instanceMethod yX1_inheritsFrom, Cond.selects RX1 yX1_inheritsFrom yX1_inheritsFrom, Cond.code yX1_inheritsFrom cX1_inheritsFrom 1 (some (.object "ShareMover$Folder")), Cond.fieldLink RX1 22 "ShareMover$Folder" "inherits" "Z", Cond.fieldLink RX1 32 "ShareMover$Folder" "parent" "LShareMover$Folder;", Cond.methodLink RX4 203 yX1_above, Cond.instanceMethod yX1_above, Cond.selects RX1 yX1_above yX1_above, Cond.code yX1_above cX1_above 4 (some (.object "ShareMover$Folder")), Cond.methodLink RX4 75 yJx4a65c_size_8abf5, Cond.instanceMethod yJx4a65c_size_8abf5, Cond.selects RJx4a65c yJx4a65c_size_8abf5 yJx4a65c_size_8abf5, Cond.initialized RJx4a65c]
def wsX4_rightsByOverruling_r2 : List Cond := [Cond.code yJx4a65c_size_8abf5 cJx4a65c_size_8abf5 1 (some .int), Cond.fieldLink RJx4a65c 48 "java/util/ArrayList" "size" "I", Cond.methodLink RX4 155 yJx4a65c_get_915e3, Cond.instanceMethod yJx4a65c_get_915e3, Cond.selects RJx4a65c yJx4a65c_get_915e3 yJx4a65c_get_915e3, Cond.code yJx4a65c_get_915e3 cJx4a65c_get_915e3 2 (some (.object "java/lang/Object")), Cond.methodLink RJx4a65c 118 yJ15_checkIndex_7cf53, Cond.static yJ15_checkIndex_7cf53, Cond.initialized RJ15, Cond.code yJ15_checkIndex_7cf53 cJ15_checkIndex_7cf53 2 (some .int), Cond.methodLink RJ15 105 yJ3_checkIndex_8e157, Cond.static yJ3_checkIndex_8e157, Cond.initialized RJ3, Cond.code yJ3_checkIndex_8e157 cJ3_checkIndex_8e157 3 (some .int), Cond.methodLink RJx4a65c 123 yJx4a65c_elementData_915e3, Cond.instanceMethod yJx4a65c_elementData_915e3, Cond.selects RJx4a65c yJx4a65c_elementData_915e3 yJx4a65c_elementData_915e3, Cond.code yJx4a65c_elementData_915e3 cJx4a65c_elementData_915e3 2 (some (.object "java/lang/Object")), Cond.fieldLink RJx4a65c 9 "java/util/ArrayList" "elementData" "[Ljava/lang/Object;", Cond.methodLink RX4 185 yX0_counts, Cond.instanceMethod yX0_counts, Cond.selects RX0 yX0_counts yX0_counts, Cond.initialized RX0, Cond.code yX0_counts cX0_counts 2 (some .boolean)]
def wsX4_rightsByOverruling_r3 : List Cond := [Cond.fieldLink RX0 22 "ShareMover$Entry" "scope" "I", Cond.methodLink RX4 189 yX4_isFor, Cond.instanceMethod yX4_isFor, Cond.selects RX4 yX4_isFor yX4_isFor, Cond.initialized RX4, Cond.code yX4_isFor cX4_isFor 3 (some .boolean), Cond.fieldLink RX4 182 "ShareMover$Entry" "who" "I", Cond.fieldLink RX4 12 "ShareMover" "groups" "LShareMover$Groups;", Cond.methodLink RX4 68 yX2_everyoneIn, Cond.instanceMethod yX2_everyoneIn, Cond.selects RX2 yX2_everyoneIn yX2_everyoneIn, Cond.initialized RX2, Cond.code yX2_everyoneIn cX2_everyoneIn 2 (some .int), Cond.fieldLink RX2 18 "ShareMover$Groups" "everyone" "[I", Cond.methodLink RX4 54 yX4_contains, Cond.static yX4_contains, Cond.code yX4_contains cX4_contains 2 (some .boolean)]
def wsX4_rightsByOverruling : List Cond := .code yX4_rightsByOverruling cX4_rightsByOverruling 8 (some .int) :: ((wsX4_rightsByOverruling_r1 ++ (wsX4_rightsByOverruling_r2 ++ wsX4_rightsByOverruling_r3)) ++ wsX10 ++ wsX00 ++ wsJx4a65c0 ++ wsX40 ++ wsX20)
def wsX4_rightsBackwards_r1 : List Cond := [Cond.methodLink RX4 43 yX4_refuseNoPerson, Cond.static yX4_refuseNoPerson, Cond.initialized RX4, Cond.code yX4_refuseNoPerson cX4_refuseNoPerson 1 none, Cond.classLink RX4 89 "java/lang/IndexOutOfBoundsException", Cond.initialized "java/lang/IndexOutOfBoundsException", Cond.methodLink RX4 71 yX4_folderAt, Cond.instanceMethod yX4_folderAt, Cond.selects RX4 yX4_folderAt yX4_folderAt, Cond.code yX4_folderAt cX4_folderAt 2 (some (.object "ShareMover$Folder")), Cond.fieldLink RX4 19 "ShareMover" "tree" "Ljava/util/ArrayList;", Cond.classLink RX4 30 "ShareMover$Folder", Cond.methodLink RX4 75 yJx4a65c_size_8abf5, Cond.instanceMethod yJx4a65c_size_8abf5, Cond.selects RJx4a65c yJx4a65c_size_8abf5 yJx4a65c_size_8abf5, Cond.initialized RJx4a65c, Cond.code yJx4a65c_size_8abf5 cJx4a65c_size_8abf5 1 (some .int), Cond.fieldLink RJx4a65c 48 "java/util/ArrayList" "size" "I", Cond.methodLink RX4 155 yJx4a65c_get_915e3, Cond.instanceMethod yJx4a65c_get_915e3, Cond.selects RJx4a65c yJx4a65c_get_915e3 yJx4a65c_get_915e3, Cond.code yJx4a65c_get_915e3 cJx4a65c_get_915e3 2 (some (.object "java/lang/Object")), Cond.methodLink RJx4a65c 118 yJ15_checkIndex_7cf53, Cond.static yJ15_checkIndex_7cf53]
def wsX4_rightsBackwards_r2 : List Cond := [Cond.initialized RJ15, Cond.code yJ15_checkIndex_7cf53 cJ15_checkIndex_7cf53 2 (some .int), Cond.methodLink RJ15 105 yJ3_checkIndex_8e157, Cond.static yJ3_checkIndex_8e157, Cond.initialized RJ3, Cond.code yJ3_checkIndex_8e157 cJ3_checkIndex_8e157 3 (some .int), Cond.methodLink RJx4a65c 123 yJx4a65c_elementData_915e3, Cond.instanceMethod yJx4a65c_elementData_915e3, Cond.selects RJx4a65c yJx4a65c_elementData_915e3 yJx4a65c_elementData_915e3, Cond.code yJx4a65c_elementData_915e3 cJx4a65c_elementData_915e3 2 (some (.object "java/lang/Object")), Cond.fieldLink RJx4a65c 9 "java/util/ArrayList" "elementData" "[Ljava/lang/Object;", Cond.methodLink RX4 122 yX4_rightsByOverruling, Cond.instanceMethod yX4_rightsByOverruling, Cond.selects RX4 yX4_rightsByOverruling yX4_rightsByOverruling, Cond.code yX4_rightsByOverruling cX4_rightsByOverruling 8 (some .int), Cond.fieldLink RX4 81 "ShareMover$Folder" "owner" "I", Cond.fieldLink RX4 99 "ShareMover$Folder" "row" "Ljava/util/ArrayList;", Cond.classLink RX4 104 "ShareMover$Entry", Cond.fieldLink RX4 193 "ShareMover$Entry" "allows" "Z", Cond.fieldLink RX4 115 "ShareMover$Entry" "rights" "I", Cond.methodLink RX4 200 yX1_levelsInherited, Cond.instanceMethod yX1_levelsInherited, Cond.selects RX1 yX1_levelsInherited yX1_levelsInherited, Cond.initialized RX1]
def wsX4_rightsBackwards_r3 : List Cond := [Cond.code yX1_levelsInherited cX1_levelsInherited 3 (some .int), Cond.methodLink RX1 40 yX1_inheritsFrom, Cond.instanceMethod yX1_inheritsFrom, Cond.selects RX1 yX1_inheritsFrom yX1_inheritsFrom, Cond.code yX1_inheritsFrom cX1_inheritsFrom 1 (some (.object "ShareMover$Folder")), Cond.fieldLink RX1 22 "ShareMover$Folder" "inherits" "Z", Cond.fieldLink RX1 32 "ShareMover$Folder" "parent" "LShareMover$Folder;", Cond.methodLink RX4 203 yX1_above, Cond.instanceMethod yX1_above, Cond.selects RX1 yX1_above yX1_above, Cond.code yX1_above cX1_above 4 (some (.object "ShareMover$Folder")), Cond.methodLink RX4 185 yX0_counts, Cond.instanceMethod yX0_counts, Cond.selects RX0 yX0_counts yX0_counts, Cond.initialized RX0, Cond.code yX0_counts cX0_counts 2 (some .boolean), Cond.fieldLink RX0 22 "ShareMover$Entry" "scope" "I", Cond.methodLink RX4 189 yX4_isFor, Cond.instanceMethod yX4_isFor, Cond.selects RX4 yX4_isFor yX4_isFor, Cond.code yX4_isFor cX4_isFor 3 (some .boolean), Cond.fieldLink RX4 182 "ShareMover$Entry" "who" "I", Cond.fieldLink RX4 12 "ShareMover" "groups" "LShareMover$Groups;", Cond.methodLink RX4 68 yX2_everyoneIn]
def wsX4_rightsBackwards_r4 : List Cond := [Cond.instanceMethod yX2_everyoneIn, Cond.selects RX2 yX2_everyoneIn yX2_everyoneIn, Cond.initialized RX2, Cond.code yX2_everyoneIn cX2_everyoneIn 2 (some .int), Cond.fieldLink RX2 18 "ShareMover$Groups" "everyone" "[I", Cond.methodLink RX4 54 yX4_contains, Cond.static yX4_contains, Cond.code yX4_contains cX4_contains 2 (some .boolean)]
def wsX4_rightsBackwards : List Cond := .code yX4_rightsBackwards cX4_rightsBackwards 3 (some .int) :: ((wsX4_rightsBackwards_r1 ++ (wsX4_rightsBackwards_r2 ++ (wsX4_rightsBackwards_r3 ++ wsX4_rightsBackwards_r4))) ++ wsX40 ++ wsJx4a65c0 ++ wsX10 ++ wsX00 ++ wsX20 ++ (vx_atS RX4 93 "java/lang/IndexOutOfBoundsException" ["java/lang/RuntimeException", "java/lang/Exception"]).filter goodWord)
def wsX4_findHeld_r1 : List Cond := [Cond.fieldLink RX4 26 "ShareMover" "mapping" "LShareMover$Mapping;", Cond.fieldLink RX4 209 "ShareMover$Mapping" "held" "[I", Cond.methodLink RX4 118 yX4_rightsByEntries, Cond.instanceMethod yX4_rightsByEntries, Cond.selects RX4 yX4_rightsByEntries yX4_rightsByEntries, Cond.initialized RX4, Cond.code yX4_rightsByEntries cX4_rightsByEntries 8 (some .int), Cond.fieldLink RX4 81 "ShareMover$Folder" "owner" "I", Cond.fieldLink RX4 99 "ShareMover$Folder" "row" "Ljava/util/ArrayList;", Cond.classLink RX4 104 "ShareMover$Entry", Cond.fieldLink RX4 193 "ShareMover$Entry" "allows" "Z", Cond.fieldLink RX4 115 "ShareMover$Entry" "rights" "I", Cond.methodLink RX4 75 yJx4a65c_size_8abf5, Cond.instanceMethod yJx4a65c_size_8abf5, Cond.selects RJx4a65c yJx4a65c_size_8abf5 yJx4a65c_size_8abf5, Cond.initialized RJx4a65c, Cond.code yJx4a65c_size_8abf5 cJx4a65c_size_8abf5 1 (some .int), Cond.fieldLink RJx4a65c 48 "java/util/ArrayList" "size" "I", Cond.methodLink RX4 155 yJx4a65c_get_915e3, Cond.instanceMethod yJx4a65c_get_915e3, Cond.selects RJx4a65c yJx4a65c_get_915e3 yJx4a65c_get_915e3, Cond.code yJx4a65c_get_915e3 cJx4a65c_get_915e3 2 (some (.object "java/lang/Object")), Cond.methodLink RJx4a65c 118 yJ15_checkIndex_7cf53, Cond.static yJ15_checkIndex_7cf53]
def wsX4_findHeld_r2 : List Cond := [Cond.initialized RJ15, Cond.code yJ15_checkIndex_7cf53 cJ15_checkIndex_7cf53 2 (some .int), Cond.methodLink RJ15 105 yJ3_checkIndex_8e157, Cond.static yJ3_checkIndex_8e157, Cond.initialized RJ3, Cond.code yJ3_checkIndex_8e157 cJ3_checkIndex_8e157 3 (some .int), Cond.methodLink RJx4a65c 123 yJx4a65c_elementData_915e3, Cond.instanceMethod yJx4a65c_elementData_915e3, Cond.selects RJx4a65c yJx4a65c_elementData_915e3 yJx4a65c_elementData_915e3, Cond.code yJx4a65c_elementData_915e3 cJx4a65c_elementData_915e3 2 (some (.object "java/lang/Object")), Cond.fieldLink RJx4a65c 9 "java/util/ArrayList" "elementData" "[Ljava/lang/Object;", Cond.methodLink RX4 185 yX0_counts, Cond.instanceMethod yX0_counts, Cond.selects RX0 yX0_counts yX0_counts, Cond.initialized RX0, Cond.code yX0_counts cX0_counts 2 (some .boolean), Cond.fieldLink RX0 22 "ShareMover$Entry" "scope" "I", Cond.methodLink RX4 189 yX4_isFor, Cond.instanceMethod yX4_isFor, Cond.selects RX4 yX4_isFor yX4_isFor, Cond.code yX4_isFor cX4_isFor 3 (some .boolean), Cond.fieldLink RX4 182 "ShareMover$Entry" "who" "I", Cond.fieldLink RX4 12 "ShareMover" "groups" "LShareMover$Groups;", Cond.methodLink RX4 68 yX2_everyoneIn]
def wsX4_findHeld_r3 : List Cond := [Cond.instanceMethod yX2_everyoneIn, Cond.selects RX2 yX2_everyoneIn yX2_everyoneIn, Cond.initialized RX2, Cond.code yX2_everyoneIn cX2_everyoneIn 2 (some .int), Cond.fieldLink RX2 18 "ShareMover$Groups" "everyone" "[I", Cond.methodLink RX4 54 yX4_contains, Cond.static yX4_contains, Cond.code yX4_contains cX4_contains 2 (some .boolean), Cond.methodLink RX4 196 yX1_inheritsFrom, Cond.instanceMethod yX1_inheritsFrom, Cond.selects RX1 yX1_inheritsFrom yX1_inheritsFrom, Cond.initialized RX1, Cond.code yX1_inheritsFrom cX1_inheritsFrom 1 (some (.object "ShareMover$Folder")), Cond.fieldLink RX1 22 "ShareMover$Folder" "inherits" "Z", Cond.fieldLink RX1 32 "ShareMover$Folder" "parent" "LShareMover$Folder;"]
def wsX4_findHeld : List Cond := .code yX4_findHeld cX4_findHeld 3 none :: ((wsX4_findHeld_r1 ++ (wsX4_findHeld_r2 ++ wsX4_findHeld_r3)) ++ wsX40 ++ wsX30 ++ wsX10 ++ wsX00 ++ wsJx4a65c0 ++ wsX20)
def wsX4_mapWith_r1 : List Cond := [Cond.fieldLink RX4 12 "ShareMover" "groups" "LShareMover$Groups;", Cond.fieldLink RX4 26 "ShareMover" "mapping" "LShareMover$Mapping;", Cond.fieldLink RX4 81 "ShareMover$Folder" "owner" "I", Cond.methodLink RX4 68 yX2_everyoneIn, Cond.instanceMethod yX2_everyoneIn, Cond.selects RX2 yX2_everyoneIn yX2_everyoneIn, Cond.initialized RX2, Cond.code yX2_everyoneIn cX2_everyoneIn 2 (some .int), Cond.fieldLink RX2 18 "ShareMover$Groups" "everyone" "[I", Cond.methodLink RX4 212 yX3_make, Cond.instanceMethod yX3_make, Cond.selects RX3 yX3_make yX3_make, Cond.initialized RX3, Cond.code yX3_make cX3_make 5 none, Cond.fieldLink RX3 18 "ShareMover$Mapping" "group" "I", Cond.fieldLink RX3 28 "ShareMover$Mapping" "namedPersons" "I", Cond.fieldLink RX3 31 "ShareMover$Mapping" "lost" "I", Cond.methodLink RX3 34 yX3_findBits, Cond.instanceMethod yX3_findBits, Cond.selects RX3 yX3_findBits yX3_findBits, Cond.code yX3_findBits cX3_findBits 5 none, Cond.fieldLink RX3 22 "ShareMover$Mapping" "groupBits" "I", Cond.fieldLink RX3 25 "ShareMover$Mapping" "otherBits" "I", Cond.fieldLink RX3 15 "ShareMover$Mapping" "given" "[I"]
def wsX4_mapWith_r2 : List Cond := [Cond.fieldLink RX3 9 "ShareMover$Mapping" "held" "[I", Cond.methodLink RX3 42 yX3_sharedBy, Cond.instanceMethod yX3_sharedBy, Cond.selects RX3 yX3_sharedBy yX3_sharedBy, Cond.code yX3_sharedBy cX3_sharedBy 4 (some .int), Cond.static yX4_contains, Cond.initialized RX4, Cond.code yX4_contains cX4_contains 2 (some .boolean), Cond.methodLink RX3 50 yX3_lossOf, Cond.instanceMethod yX3_lossOf, Cond.selects RX3 yX3_lossOf yX3_lossOf, Cond.code yX3_lossOf cX3_lossOf 2 (some .int), Cond.methodLink RX3 53 yJ6_bitCount_0f7a4, Cond.static yJ6_bitCount_0f7a4, Cond.initialized RJ6, Cond.code yJ6_bitCount_0f7a4 cJ6_bitCount_0f7a4 1 (some .int), Cond.constant RJ6 265 (1431655765), Cond.constant RJ6 266 (858993459), Cond.constant RJ6 267 (252645135), Cond.methodLink RX3 38 yX3_greatestLoser, Cond.instanceMethod yX3_greatestLoser, Cond.selects RX3 yX3_greatestLoser yX3_greatestLoser, Cond.code yX3_greatestLoser cX3_greatestLoser 3 (some .int)]
def wsX4_mapWith : List Cond := .code yX4_mapWith cX4_mapWith 4 none :: ((wsX4_mapWith_r1 ++ wsX4_mapWith_r2) ++ wsX40 ++ wsX10 ++ wsX20 ++ wsX30)
def wsX4_mappingOf_r1 : List Cond := [Cond.fieldLink RX4 26 "ShareMover" "mapping" "LShareMover$Mapping;", Cond.fieldLink RX4 145 "ShareMover$Mapping" "lost" "I", Cond.methodLink RX4 148 yX4_findHeld, Cond.instanceMethod yX4_findHeld, Cond.selects RX4 yX4_findHeld yX4_findHeld, Cond.initialized RX4, Cond.code yX4_findHeld cX4_findHeld 3 none, Cond.fieldLink RX4 209 "ShareMover$Mapping" "held" "[I", Cond.methodLink RX4 118 yX4_rightsByEntries, Cond.instanceMethod yX4_rightsByEntries, Cond.selects RX4 yX4_rightsByEntries yX4_rightsByEntries, Cond.code yX4_rightsByEntries cX4_rightsByEntries 8 (some .int), Cond.fieldLink RX4 81 "ShareMover$Folder" "owner" "I", Cond.fieldLink RX4 99 "ShareMover$Folder" "row" "Ljava/util/ArrayList;", Cond.classLink RX4 104 "ShareMover$Entry", Cond.fieldLink RX4 193 "ShareMover$Entry" "allows" "Z", Cond.fieldLink RX4 115 "ShareMover$Entry" "rights" "I", Cond.methodLink RX4 75 yJx4a65c_size_8abf5, Cond.instanceMethod yJx4a65c_size_8abf5, Cond.selects RJx4a65c yJx4a65c_size_8abf5 yJx4a65c_size_8abf5, Cond.initialized RJx4a65c, Cond.code yJx4a65c_size_8abf5 cJx4a65c_size_8abf5 1 (some .int), Cond.fieldLink RJx4a65c 48 "java/util/ArrayList" "size" "I", Cond.methodLink RX4 155 yJx4a65c_get_915e3]
def wsX4_mappingOf_r2 : List Cond := [Cond.instanceMethod yJx4a65c_get_915e3, Cond.selects RJx4a65c yJx4a65c_get_915e3 yJx4a65c_get_915e3, Cond.code yJx4a65c_get_915e3 cJx4a65c_get_915e3 2 (some (.object "java/lang/Object")), Cond.methodLink RJx4a65c 118 yJ15_checkIndex_7cf53, Cond.static yJ15_checkIndex_7cf53, Cond.initialized RJ15, Cond.code yJ15_checkIndex_7cf53 cJ15_checkIndex_7cf53 2 (some .int), Cond.methodLink RJ15 105 yJ3_checkIndex_8e157, Cond.static yJ3_checkIndex_8e157, Cond.initialized RJ3, Cond.code yJ3_checkIndex_8e157 cJ3_checkIndex_8e157 3 (some .int), Cond.methodLink RJx4a65c 123 yJx4a65c_elementData_915e3, Cond.instanceMethod yJx4a65c_elementData_915e3, Cond.selects RJx4a65c yJx4a65c_elementData_915e3 yJx4a65c_elementData_915e3, Cond.code yJx4a65c_elementData_915e3 cJx4a65c_elementData_915e3 2 (some (.object "java/lang/Object")), Cond.fieldLink RJx4a65c 9 "java/util/ArrayList" "elementData" "[Ljava/lang/Object;", Cond.methodLink RX4 185 yX0_counts, Cond.instanceMethod yX0_counts, Cond.selects RX0 yX0_counts yX0_counts, Cond.initialized RX0, Cond.code yX0_counts cX0_counts 2 (some .boolean), Cond.fieldLink RX0 22 "ShareMover$Entry" "scope" "I", Cond.methodLink RX4 189 yX4_isFor, Cond.instanceMethod yX4_isFor]
def wsX4_mappingOf_r3 : List Cond := [Cond.selects RX4 yX4_isFor yX4_isFor, Cond.code yX4_isFor cX4_isFor 3 (some .boolean), Cond.fieldLink RX4 182 "ShareMover$Entry" "who" "I", Cond.fieldLink RX4 12 "ShareMover" "groups" "LShareMover$Groups;", Cond.methodLink RX4 68 yX2_everyoneIn, Cond.instanceMethod yX2_everyoneIn, Cond.selects RX2 yX2_everyoneIn yX2_everyoneIn, Cond.initialized RX2, Cond.code yX2_everyoneIn cX2_everyoneIn 2 (some .int), Cond.fieldLink RX2 18 "ShareMover$Groups" "everyone" "[I", Cond.methodLink RX4 54 yX4_contains, Cond.static yX4_contains, Cond.code yX4_contains cX4_contains 2 (some .boolean), Cond.methodLink RX4 196 yX1_inheritsFrom, Cond.instanceMethod yX1_inheritsFrom, Cond.selects RX1 yX1_inheritsFrom yX1_inheritsFrom, Cond.initialized RX1, Cond.code yX1_inheritsFrom cX1_inheritsFrom 1 (some (.object "ShareMover$Folder")), Cond.fieldLink RX1 22 "ShareMover$Folder" "inherits" "Z", Cond.fieldLink RX1 32 "ShareMover$Folder" "parent" "LShareMover$Folder;", Cond.methodLink RX4 152 yX4_mapWith, Cond.instanceMethod yX4_mapWith, Cond.selects RX4 yX4_mapWith yX4_mapWith, Cond.code yX4_mapWith cX4_mapWith 4 none]
def wsX4_mappingOf_r4 : List Cond := [Cond.methodLink RX4 212 yX3_make, Cond.instanceMethod yX3_make, Cond.selects RX3 yX3_make yX3_make, Cond.initialized RX3, Cond.code yX3_make cX3_make 5 none, Cond.fieldLink RX3 18 "ShareMover$Mapping" "group" "I", Cond.fieldLink RX3 28 "ShareMover$Mapping" "namedPersons" "I", Cond.fieldLink RX3 31 "ShareMover$Mapping" "lost" "I", Cond.methodLink RX3 34 yX3_findBits, Cond.instanceMethod yX3_findBits, Cond.selects RX3 yX3_findBits yX3_findBits, Cond.code yX3_findBits cX3_findBits 5 none, Cond.fieldLink RX3 22 "ShareMover$Mapping" "groupBits" "I", Cond.fieldLink RX3 25 "ShareMover$Mapping" "otherBits" "I", Cond.fieldLink RX3 15 "ShareMover$Mapping" "given" "[I", Cond.fieldLink RX3 9 "ShareMover$Mapping" "held" "[I", Cond.methodLink RX3 42 yX3_sharedBy, Cond.instanceMethod yX3_sharedBy, Cond.selects RX3 yX3_sharedBy yX3_sharedBy, Cond.code yX3_sharedBy cX3_sharedBy 4 (some .int), Cond.methodLink RX3 50 yX3_lossOf, Cond.instanceMethod yX3_lossOf, Cond.selects RX3 yX3_lossOf yX3_lossOf, Cond.code yX3_lossOf cX3_lossOf 2 (some .int)]
def wsX4_mappingOf_r5 : List Cond := [Cond.methodLink RX3 53 yJ6_bitCount_0f7a4, Cond.static yJ6_bitCount_0f7a4, Cond.initialized RJ6, Cond.code yJ6_bitCount_0f7a4 cJ6_bitCount_0f7a4 1 (some .int), Cond.constant RJ6 265 (1431655765), Cond.constant RJ6 266 (858993459), Cond.constant RJ6 267 (252645135), Cond.methodLink RX3 38 yX3_greatestLoser, Cond.instanceMethod yX3_greatestLoser, Cond.selects RX3 yX3_greatestLoser yX3_greatestLoser, Cond.code yX3_greatestLoser cX3_greatestLoser 3 (some .int)]
def wsX4_mappingOf : List Cond := .code yX4_mappingOf cX4_mappingOf 5 (some (.object "ShareMover$Mapping")) :: ((wsX4_mappingOf_r1 ++ (wsX4_mappingOf_r2 ++ (wsX4_mappingOf_r3 ++ (wsX4_mappingOf_r4 ++ wsX4_mappingOf_r5)))) ++ wsX40 ++ wsX30 ++ wsX10 ++ wsX00 ++ wsJx4a65c0 ++ wsX20)
def wsX4_groupOf_r1 : List Cond := [Cond.fieldLink RX4 129 "ShareMover$Mapping" "group" "I", Cond.methodLink RX4 71 yX4_folderAt, Cond.instanceMethod yX4_folderAt, Cond.selects RX4 yX4_folderAt yX4_folderAt, Cond.initialized RX4, Cond.code yX4_folderAt cX4_folderAt 2 (some (.object "ShareMover$Folder")), Cond.classLink RX4 89 "java/lang/IndexOutOfBoundsException", Cond.initialized "java/lang/IndexOutOfBoundsException", Cond.fieldLink RX4 19 "ShareMover" "tree" "Ljava/util/ArrayList;", Cond.classLink RX4 30 "ShareMover$Folder", Cond.methodLink RX4 75 yJx4a65c_size_8abf5, Cond.instanceMethod yJx4a65c_size_8abf5, Cond.selects RJx4a65c yJx4a65c_size_8abf5 yJx4a65c_size_8abf5, Cond.initialized RJx4a65c, Cond.code yJx4a65c_size_8abf5 cJx4a65c_size_8abf5 1 (some .int), Cond.fieldLink RJx4a65c 48 "java/util/ArrayList" "size" "I", Cond.methodLink RX4 155 yJx4a65c_get_915e3, Cond.instanceMethod yJx4a65c_get_915e3, Cond.selects RJx4a65c yJx4a65c_get_915e3 yJx4a65c_get_915e3, Cond.code yJx4a65c_get_915e3 cJx4a65c_get_915e3 2 (some (.object "java/lang/Object")), Cond.methodLink RJx4a65c 118 yJ15_checkIndex_7cf53, Cond.static yJ15_checkIndex_7cf53, Cond.initialized RJ15, Cond.code yJ15_checkIndex_7cf53 cJ15_checkIndex_7cf53 2 (some .int)]
def wsX4_groupOf_r2 : List Cond := [Cond.methodLink RJ15 105 yJ3_checkIndex_8e157, Cond.static yJ3_checkIndex_8e157, Cond.initialized RJ3, Cond.code yJ3_checkIndex_8e157 cJ3_checkIndex_8e157 3 (some .int), Cond.methodLink RJx4a65c 123 yJx4a65c_elementData_915e3, Cond.instanceMethod yJx4a65c_elementData_915e3, Cond.selects RJx4a65c yJx4a65c_elementData_915e3 yJx4a65c_elementData_915e3, Cond.code yJx4a65c_elementData_915e3 cJx4a65c_elementData_915e3 2 (some (.object "java/lang/Object")), Cond.fieldLink RJx4a65c 9 "java/util/ArrayList" "elementData" "[Ljava/lang/Object;", Cond.methodLink RX4 125 yX4_mappingOf, Cond.instanceMethod yX4_mappingOf, Cond.selects RX4 yX4_mappingOf yX4_mappingOf, Cond.code yX4_mappingOf cX4_mappingOf 5 (some (.object "ShareMover$Mapping")), Cond.fieldLink RX4 26 "ShareMover" "mapping" "LShareMover$Mapping;", Cond.fieldLink RX4 145 "ShareMover$Mapping" "lost" "I", Cond.methodLink RX4 148 yX4_findHeld, Cond.instanceMethod yX4_findHeld, Cond.selects RX4 yX4_findHeld yX4_findHeld, Cond.code yX4_findHeld cX4_findHeld 3 none, Cond.fieldLink RX4 209 "ShareMover$Mapping" "held" "[I", Cond.methodLink RX4 118 yX4_rightsByEntries, Cond.instanceMethod yX4_rightsByEntries, Cond.selects RX4 yX4_rightsByEntries yX4_rightsByEntries, Cond.code yX4_rightsByEntries cX4_rightsByEntries 8 (some .int)]
def wsX4_groupOf_r3 : List Cond := [Cond.fieldLink RX4 81 "ShareMover$Folder" "owner" "I", Cond.fieldLink RX4 99 "ShareMover$Folder" "row" "Ljava/util/ArrayList;", Cond.classLink RX4 104 "ShareMover$Entry", Cond.fieldLink RX4 193 "ShareMover$Entry" "allows" "Z", Cond.fieldLink RX4 115 "ShareMover$Entry" "rights" "I", Cond.methodLink RX4 185 yX0_counts, Cond.instanceMethod yX0_counts, Cond.selects RX0 yX0_counts yX0_counts, Cond.initialized RX0, Cond.code yX0_counts cX0_counts 2 (some .boolean), Cond.fieldLink RX0 22 "ShareMover$Entry" "scope" "I", Cond.methodLink RX4 189 yX4_isFor, Cond.instanceMethod yX4_isFor, Cond.selects RX4 yX4_isFor yX4_isFor, Cond.code yX4_isFor cX4_isFor 3 (some .boolean), Cond.fieldLink RX4 182 "ShareMover$Entry" "who" "I", Cond.fieldLink RX4 12 "ShareMover" "groups" "LShareMover$Groups;", Cond.methodLink RX4 68 yX2_everyoneIn, Cond.instanceMethod yX2_everyoneIn, Cond.selects RX2 yX2_everyoneIn yX2_everyoneIn, Cond.initialized RX2, Cond.code yX2_everyoneIn cX2_everyoneIn 2 (some .int), Cond.fieldLink RX2 18 "ShareMover$Groups" "everyone" "[I", Cond.methodLink RX4 54 yX4_contains]
def wsX4_groupOf_r4 : List Cond := [Cond.static yX4_contains, Cond.code yX4_contains cX4_contains 2 (some .boolean), Cond.methodLink RX4 196 yX1_inheritsFrom, Cond.instanceMethod yX1_inheritsFrom, Cond.selects RX1 yX1_inheritsFrom yX1_inheritsFrom, Cond.initialized RX1, Cond.code yX1_inheritsFrom cX1_inheritsFrom 1 (some (.object "ShareMover$Folder")), Cond.fieldLink RX1 22 "ShareMover$Folder" "inherits" "Z", Cond.fieldLink RX1 32 "ShareMover$Folder" "parent" "LShareMover$Folder;", Cond.methodLink RX4 152 yX4_mapWith, Cond.instanceMethod yX4_mapWith, Cond.selects RX4 yX4_mapWith yX4_mapWith, Cond.code yX4_mapWith cX4_mapWith 4 none, Cond.methodLink RX4 212 yX3_make, Cond.instanceMethod yX3_make, Cond.selects RX3 yX3_make yX3_make, Cond.initialized RX3, Cond.code yX3_make cX3_make 5 none, Cond.fieldLink RX3 18 "ShareMover$Mapping" "group" "I", Cond.fieldLink RX3 28 "ShareMover$Mapping" "namedPersons" "I", Cond.fieldLink RX3 31 "ShareMover$Mapping" "lost" "I", Cond.methodLink RX3 34 yX3_findBits, Cond.instanceMethod yX3_findBits, Cond.selects RX3 yX3_findBits yX3_findBits]
def wsX4_groupOf_r5 : List Cond := [Cond.code yX3_findBits cX3_findBits 5 none, Cond.fieldLink RX3 22 "ShareMover$Mapping" "groupBits" "I", Cond.fieldLink RX3 25 "ShareMover$Mapping" "otherBits" "I", Cond.fieldLink RX3 15 "ShareMover$Mapping" "given" "[I", Cond.fieldLink RX3 9 "ShareMover$Mapping" "held" "[I", Cond.methodLink RX3 42 yX3_sharedBy, Cond.instanceMethod yX3_sharedBy, Cond.selects RX3 yX3_sharedBy yX3_sharedBy, Cond.code yX3_sharedBy cX3_sharedBy 4 (some .int), Cond.methodLink RX3 50 yX3_lossOf, Cond.instanceMethod yX3_lossOf, Cond.selects RX3 yX3_lossOf yX3_lossOf, Cond.code yX3_lossOf cX3_lossOf 2 (some .int), Cond.methodLink RX3 53 yJ6_bitCount_0f7a4, Cond.static yJ6_bitCount_0f7a4, Cond.initialized RJ6, Cond.code yJ6_bitCount_0f7a4 cJ6_bitCount_0f7a4 1 (some .int), Cond.constant RJ6 265 (1431655765), Cond.constant RJ6 266 (858993459), Cond.constant RJ6 267 (252645135), Cond.methodLink RX3 38 yX3_greatestLoser, Cond.instanceMethod yX3_greatestLoser, Cond.selects RX3 yX3_greatestLoser yX3_greatestLoser, Cond.code yX3_greatestLoser cX3_greatestLoser 3 (some .int)]
def wsX4_groupOf : List Cond := .code yX4_groupOf cX4_groupOf 2 (some .int) :: ((wsX4_groupOf_r1 ++ (wsX4_groupOf_r2 ++ (wsX4_groupOf_r3 ++ (wsX4_groupOf_r4 ++ wsX4_groupOf_r5)))) ++ wsX30 ++ wsX40 ++ wsJx4a65c0 ++ wsX10 ++ wsX00 ++ wsX20 ++ (vx_atS RX4 93 "java/lang/IndexOutOfBoundsException" ["java/lang/RuntimeException", "java/lang/Exception"]).filter goodWord)
def wsX4_bits_r1 : List Cond := [Cond.fieldLink RX4 132 "ShareMover$Mapping" "groupBits" "I", Cond.fieldLink RX4 135 "ShareMover$Mapping" "otherBits" "I", Cond.methodLink RX4 71 yX4_folderAt, Cond.instanceMethod yX4_folderAt, Cond.selects RX4 yX4_folderAt yX4_folderAt, Cond.initialized RX4, Cond.code yX4_folderAt cX4_folderAt 2 (some (.object "ShareMover$Folder")), Cond.classLink RX4 89 "java/lang/IndexOutOfBoundsException", Cond.initialized "java/lang/IndexOutOfBoundsException", Cond.fieldLink RX4 19 "ShareMover" "tree" "Ljava/util/ArrayList;", Cond.classLink RX4 30 "ShareMover$Folder", Cond.methodLink RX4 75 yJx4a65c_size_8abf5, Cond.instanceMethod yJx4a65c_size_8abf5, Cond.selects RJx4a65c yJx4a65c_size_8abf5 yJx4a65c_size_8abf5, Cond.initialized RJx4a65c, Cond.code yJx4a65c_size_8abf5 cJx4a65c_size_8abf5 1 (some .int), Cond.fieldLink RJx4a65c 48 "java/util/ArrayList" "size" "I", Cond.methodLink RX4 155 yJx4a65c_get_915e3, Cond.instanceMethod yJx4a65c_get_915e3, Cond.selects RJx4a65c yJx4a65c_get_915e3 yJx4a65c_get_915e3, Cond.code yJx4a65c_get_915e3 cJx4a65c_get_915e3 2 (some (.object "java/lang/Object")), Cond.methodLink RJx4a65c 118 yJ15_checkIndex_7cf53, Cond.static yJ15_checkIndex_7cf53, Cond.initialized RJ15]
def wsX4_bits_r2 : List Cond := [Cond.code yJ15_checkIndex_7cf53 cJ15_checkIndex_7cf53 2 (some .int), Cond.methodLink RJ15 105 yJ3_checkIndex_8e157, Cond.static yJ3_checkIndex_8e157, Cond.initialized RJ3, Cond.code yJ3_checkIndex_8e157 cJ3_checkIndex_8e157 3 (some .int), Cond.methodLink RJx4a65c 123 yJx4a65c_elementData_915e3, Cond.instanceMethod yJx4a65c_elementData_915e3, Cond.selects RJx4a65c yJx4a65c_elementData_915e3 yJx4a65c_elementData_915e3, Cond.code yJx4a65c_elementData_915e3 cJx4a65c_elementData_915e3 2 (some (.object "java/lang/Object")), Cond.fieldLink RJx4a65c 9 "java/util/ArrayList" "elementData" "[Ljava/lang/Object;", Cond.methodLink RX4 125 yX4_mappingOf, Cond.instanceMethod yX4_mappingOf, Cond.selects RX4 yX4_mappingOf yX4_mappingOf, Cond.code yX4_mappingOf cX4_mappingOf 5 (some (.object "ShareMover$Mapping")), Cond.fieldLink RX4 26 "ShareMover" "mapping" "LShareMover$Mapping;", Cond.fieldLink RX4 145 "ShareMover$Mapping" "lost" "I", Cond.methodLink RX4 148 yX4_findHeld, Cond.instanceMethod yX4_findHeld, Cond.selects RX4 yX4_findHeld yX4_findHeld, Cond.code yX4_findHeld cX4_findHeld 3 none, Cond.fieldLink RX4 209 "ShareMover$Mapping" "held" "[I", Cond.methodLink RX4 118 yX4_rightsByEntries, Cond.instanceMethod yX4_rightsByEntries, Cond.selects RX4 yX4_rightsByEntries yX4_rightsByEntries]
def wsX4_bits_r3 : List Cond := [Cond.code yX4_rightsByEntries cX4_rightsByEntries 8 (some .int), Cond.fieldLink RX4 81 "ShareMover$Folder" "owner" "I", Cond.fieldLink RX4 99 "ShareMover$Folder" "row" "Ljava/util/ArrayList;", Cond.classLink RX4 104 "ShareMover$Entry", Cond.fieldLink RX4 193 "ShareMover$Entry" "allows" "Z", Cond.fieldLink RX4 115 "ShareMover$Entry" "rights" "I", Cond.methodLink RX4 185 yX0_counts, Cond.instanceMethod yX0_counts, Cond.selects RX0 yX0_counts yX0_counts, Cond.initialized RX0, Cond.code yX0_counts cX0_counts 2 (some .boolean), Cond.fieldLink RX0 22 "ShareMover$Entry" "scope" "I", Cond.methodLink RX4 189 yX4_isFor, Cond.instanceMethod yX4_isFor, Cond.selects RX4 yX4_isFor yX4_isFor, Cond.code yX4_isFor cX4_isFor 3 (some .boolean), Cond.fieldLink RX4 182 "ShareMover$Entry" "who" "I", Cond.fieldLink RX4 12 "ShareMover" "groups" "LShareMover$Groups;", Cond.methodLink RX4 68 yX2_everyoneIn, Cond.instanceMethod yX2_everyoneIn, Cond.selects RX2 yX2_everyoneIn yX2_everyoneIn, Cond.initialized RX2, Cond.code yX2_everyoneIn cX2_everyoneIn 2 (some .int), Cond.fieldLink RX2 18 "ShareMover$Groups" "everyone" "[I"]
def wsX4_bits_r4 : List Cond := [Cond.methodLink RX4 54 yX4_contains, Cond.static yX4_contains, Cond.code yX4_contains cX4_contains 2 (some .boolean), Cond.methodLink RX4 196 yX1_inheritsFrom, Cond.instanceMethod yX1_inheritsFrom, Cond.selects RX1 yX1_inheritsFrom yX1_inheritsFrom, Cond.initialized RX1, Cond.code yX1_inheritsFrom cX1_inheritsFrom 1 (some (.object "ShareMover$Folder")), Cond.fieldLink RX1 22 "ShareMover$Folder" "inherits" "Z", Cond.fieldLink RX1 32 "ShareMover$Folder" "parent" "LShareMover$Folder;", Cond.methodLink RX4 152 yX4_mapWith, Cond.instanceMethod yX4_mapWith, Cond.selects RX4 yX4_mapWith yX4_mapWith, Cond.code yX4_mapWith cX4_mapWith 4 none, Cond.methodLink RX4 212 yX3_make, Cond.instanceMethod yX3_make, Cond.selects RX3 yX3_make yX3_make, Cond.initialized RX3, Cond.code yX3_make cX3_make 5 none, Cond.fieldLink RX3 18 "ShareMover$Mapping" "group" "I", Cond.fieldLink RX3 28 "ShareMover$Mapping" "namedPersons" "I", Cond.fieldLink RX3 31 "ShareMover$Mapping" "lost" "I", Cond.methodLink RX3 34 yX3_findBits, Cond.instanceMethod yX3_findBits]
def wsX4_bits_r5 : List Cond := [Cond.selects RX3 yX3_findBits yX3_findBits, Cond.code yX3_findBits cX3_findBits 5 none, Cond.fieldLink RX3 22 "ShareMover$Mapping" "groupBits" "I", Cond.fieldLink RX3 25 "ShareMover$Mapping" "otherBits" "I", Cond.fieldLink RX3 15 "ShareMover$Mapping" "given" "[I", Cond.fieldLink RX3 9 "ShareMover$Mapping" "held" "[I", Cond.methodLink RX3 42 yX3_sharedBy, Cond.instanceMethod yX3_sharedBy, Cond.selects RX3 yX3_sharedBy yX3_sharedBy, Cond.code yX3_sharedBy cX3_sharedBy 4 (some .int), Cond.methodLink RX3 50 yX3_lossOf, Cond.instanceMethod yX3_lossOf, Cond.selects RX3 yX3_lossOf yX3_lossOf, Cond.code yX3_lossOf cX3_lossOf 2 (some .int), Cond.methodLink RX3 53 yJ6_bitCount_0f7a4, Cond.static yJ6_bitCount_0f7a4, Cond.initialized RJ6, Cond.code yJ6_bitCount_0f7a4 cJ6_bitCount_0f7a4 1 (some .int), Cond.constant RJ6 265 (1431655765), Cond.constant RJ6 266 (858993459), Cond.constant RJ6 267 (252645135), Cond.methodLink RX3 38 yX3_greatestLoser, Cond.instanceMethod yX3_greatestLoser, Cond.selects RX3 yX3_greatestLoser yX3_greatestLoser]
def wsX4_bits_r6 : List Cond := [Cond.code yX3_greatestLoser cX3_greatestLoser 3 (some .int)]
def wsX4_bits : List Cond := .code yX4_bits cX4_bits 3 (some .int) :: ((wsX4_bits_r1 ++ (wsX4_bits_r2 ++ (wsX4_bits_r3 ++ (wsX4_bits_r4 ++ (wsX4_bits_r5 ++ wsX4_bits_r6))))) ++ wsX30 ++ wsX40 ++ wsJx4a65c0 ++ wsX10 ++ wsX00 ++ wsX20 ++ (vx_atS RX4 93 "java/lang/IndexOutOfBoundsException" ["java/lang/RuntimeException", "java/lang/Exception"]).filter goodWord)
def wsX4_named_r1 : List Cond := [Cond.fieldLink RX4 138 "ShareMover$Mapping" "namedPersons" "I", Cond.methodLink RX4 71 yX4_folderAt, Cond.instanceMethod yX4_folderAt, Cond.selects RX4 yX4_folderAt yX4_folderAt, Cond.initialized RX4, Cond.code yX4_folderAt cX4_folderAt 2 (some (.object "ShareMover$Folder")), Cond.classLink RX4 89 "java/lang/IndexOutOfBoundsException", Cond.initialized "java/lang/IndexOutOfBoundsException", Cond.fieldLink RX4 19 "ShareMover" "tree" "Ljava/util/ArrayList;", Cond.classLink RX4 30 "ShareMover$Folder", Cond.methodLink RX4 75 yJx4a65c_size_8abf5, Cond.instanceMethod yJx4a65c_size_8abf5, Cond.selects RJx4a65c yJx4a65c_size_8abf5 yJx4a65c_size_8abf5, Cond.initialized RJx4a65c, Cond.code yJx4a65c_size_8abf5 cJx4a65c_size_8abf5 1 (some .int), Cond.fieldLink RJx4a65c 48 "java/util/ArrayList" "size" "I", Cond.methodLink RX4 155 yJx4a65c_get_915e3, Cond.instanceMethod yJx4a65c_get_915e3, Cond.selects RJx4a65c yJx4a65c_get_915e3 yJx4a65c_get_915e3, Cond.code yJx4a65c_get_915e3 cJx4a65c_get_915e3 2 (some (.object "java/lang/Object")), Cond.methodLink RJx4a65c 118 yJ15_checkIndex_7cf53, Cond.static yJ15_checkIndex_7cf53, Cond.initialized RJ15, Cond.code yJ15_checkIndex_7cf53 cJ15_checkIndex_7cf53 2 (some .int)]
def wsX4_named_r2 : List Cond := [Cond.methodLink RJ15 105 yJ3_checkIndex_8e157, Cond.static yJ3_checkIndex_8e157, Cond.initialized RJ3, Cond.code yJ3_checkIndex_8e157 cJ3_checkIndex_8e157 3 (some .int), Cond.methodLink RJx4a65c 123 yJx4a65c_elementData_915e3, Cond.instanceMethod yJx4a65c_elementData_915e3, Cond.selects RJx4a65c yJx4a65c_elementData_915e3 yJx4a65c_elementData_915e3, Cond.code yJx4a65c_elementData_915e3 cJx4a65c_elementData_915e3 2 (some (.object "java/lang/Object")), Cond.fieldLink RJx4a65c 9 "java/util/ArrayList" "elementData" "[Ljava/lang/Object;", Cond.methodLink RX4 125 yX4_mappingOf, Cond.instanceMethod yX4_mappingOf, Cond.selects RX4 yX4_mappingOf yX4_mappingOf, Cond.code yX4_mappingOf cX4_mappingOf 5 (some (.object "ShareMover$Mapping")), Cond.fieldLink RX4 26 "ShareMover" "mapping" "LShareMover$Mapping;", Cond.fieldLink RX4 145 "ShareMover$Mapping" "lost" "I", Cond.methodLink RX4 148 yX4_findHeld, Cond.instanceMethod yX4_findHeld, Cond.selects RX4 yX4_findHeld yX4_findHeld, Cond.code yX4_findHeld cX4_findHeld 3 none, Cond.fieldLink RX4 209 "ShareMover$Mapping" "held" "[I", Cond.methodLink RX4 118 yX4_rightsByEntries, Cond.instanceMethod yX4_rightsByEntries, Cond.selects RX4 yX4_rightsByEntries yX4_rightsByEntries, Cond.code yX4_rightsByEntries cX4_rightsByEntries 8 (some .int)]
def wsX4_named_r3 : List Cond := [Cond.fieldLink RX4 81 "ShareMover$Folder" "owner" "I", Cond.fieldLink RX4 99 "ShareMover$Folder" "row" "Ljava/util/ArrayList;", Cond.classLink RX4 104 "ShareMover$Entry", Cond.fieldLink RX4 193 "ShareMover$Entry" "allows" "Z", Cond.fieldLink RX4 115 "ShareMover$Entry" "rights" "I", Cond.methodLink RX4 185 yX0_counts, Cond.instanceMethod yX0_counts, Cond.selects RX0 yX0_counts yX0_counts, Cond.initialized RX0, Cond.code yX0_counts cX0_counts 2 (some .boolean), Cond.fieldLink RX0 22 "ShareMover$Entry" "scope" "I", Cond.methodLink RX4 189 yX4_isFor, Cond.instanceMethod yX4_isFor, Cond.selects RX4 yX4_isFor yX4_isFor, Cond.code yX4_isFor cX4_isFor 3 (some .boolean), Cond.fieldLink RX4 182 "ShareMover$Entry" "who" "I", Cond.fieldLink RX4 12 "ShareMover" "groups" "LShareMover$Groups;", Cond.methodLink RX4 68 yX2_everyoneIn, Cond.instanceMethod yX2_everyoneIn, Cond.selects RX2 yX2_everyoneIn yX2_everyoneIn, Cond.initialized RX2, Cond.code yX2_everyoneIn cX2_everyoneIn 2 (some .int), Cond.fieldLink RX2 18 "ShareMover$Groups" "everyone" "[I", Cond.methodLink RX4 54 yX4_contains]
def wsX4_named_r4 : List Cond := [Cond.static yX4_contains, Cond.code yX4_contains cX4_contains 2 (some .boolean), Cond.methodLink RX4 196 yX1_inheritsFrom, Cond.instanceMethod yX1_inheritsFrom, Cond.selects RX1 yX1_inheritsFrom yX1_inheritsFrom, Cond.initialized RX1, Cond.code yX1_inheritsFrom cX1_inheritsFrom 1 (some (.object "ShareMover$Folder")), Cond.fieldLink RX1 22 "ShareMover$Folder" "inherits" "Z", Cond.fieldLink RX1 32 "ShareMover$Folder" "parent" "LShareMover$Folder;", Cond.methodLink RX4 152 yX4_mapWith, Cond.instanceMethod yX4_mapWith, Cond.selects RX4 yX4_mapWith yX4_mapWith, Cond.code yX4_mapWith cX4_mapWith 4 none, Cond.methodLink RX4 212 yX3_make, Cond.instanceMethod yX3_make, Cond.selects RX3 yX3_make yX3_make, Cond.initialized RX3, Cond.code yX3_make cX3_make 5 none, Cond.fieldLink RX3 18 "ShareMover$Mapping" "group" "I", Cond.fieldLink RX3 28 "ShareMover$Mapping" "namedPersons" "I", Cond.fieldLink RX3 31 "ShareMover$Mapping" "lost" "I", Cond.methodLink RX3 34 yX3_findBits, Cond.instanceMethod yX3_findBits, Cond.selects RX3 yX3_findBits yX3_findBits]
def wsX4_named_r5 : List Cond := [Cond.code yX3_findBits cX3_findBits 5 none, Cond.fieldLink RX3 22 "ShareMover$Mapping" "groupBits" "I", Cond.fieldLink RX3 25 "ShareMover$Mapping" "otherBits" "I", Cond.fieldLink RX3 15 "ShareMover$Mapping" "given" "[I", Cond.fieldLink RX3 9 "ShareMover$Mapping" "held" "[I", Cond.methodLink RX3 42 yX3_sharedBy, Cond.instanceMethod yX3_sharedBy, Cond.selects RX3 yX3_sharedBy yX3_sharedBy, Cond.code yX3_sharedBy cX3_sharedBy 4 (some .int), Cond.methodLink RX3 50 yX3_lossOf, Cond.instanceMethod yX3_lossOf, Cond.selects RX3 yX3_lossOf yX3_lossOf, Cond.code yX3_lossOf cX3_lossOf 2 (some .int), Cond.methodLink RX3 53 yJ6_bitCount_0f7a4, Cond.static yJ6_bitCount_0f7a4, Cond.initialized RJ6, Cond.code yJ6_bitCount_0f7a4 cJ6_bitCount_0f7a4 1 (some .int), Cond.constant RJ6 265 (1431655765), Cond.constant RJ6 266 (858993459), Cond.constant RJ6 267 (252645135), Cond.methodLink RX3 38 yX3_greatestLoser, Cond.instanceMethod yX3_greatestLoser, Cond.selects RX3 yX3_greatestLoser yX3_greatestLoser, Cond.code yX3_greatestLoser cX3_greatestLoser 3 (some .int)]
def wsX4_named : List Cond := .code yX4_named cX4_named 2 (some .int) :: ((wsX4_named_r1 ++ (wsX4_named_r2 ++ (wsX4_named_r3 ++ (wsX4_named_r4 ++ wsX4_named_r5)))) ++ wsX30 ++ wsX40 ++ wsJx4a65c0 ++ wsX10 ++ wsX00 ++ wsX20 ++ (vx_atS RX4 93 "java/lang/IndexOutOfBoundsException" ["java/lang/RuntimeException", "java/lang/Exception"]).filter goodWord)
def wsX4_mapped_r1 : List Cond := [Cond.fieldLink RX4 141 "ShareMover$Mapping" "given" "[I", Cond.methodLink RX4 43 yX4_refuseNoPerson, Cond.static yX4_refuseNoPerson, Cond.initialized RX4, Cond.code yX4_refuseNoPerson cX4_refuseNoPerson 1 none, Cond.classLink RX4 89 "java/lang/IndexOutOfBoundsException", Cond.initialized "java/lang/IndexOutOfBoundsException", Cond.methodLink RX4 71 yX4_folderAt, Cond.instanceMethod yX4_folderAt, Cond.selects RX4 yX4_folderAt yX4_folderAt, Cond.code yX4_folderAt cX4_folderAt 2 (some (.object "ShareMover$Folder")), Cond.fieldLink RX4 19 "ShareMover" "tree" "Ljava/util/ArrayList;", Cond.classLink RX4 30 "ShareMover$Folder", Cond.methodLink RX4 75 yJx4a65c_size_8abf5, Cond.instanceMethod yJx4a65c_size_8abf5, Cond.selects RJx4a65c yJx4a65c_size_8abf5 yJx4a65c_size_8abf5, Cond.initialized RJx4a65c, Cond.code yJx4a65c_size_8abf5 cJx4a65c_size_8abf5 1 (some .int), Cond.fieldLink RJx4a65c 48 "java/util/ArrayList" "size" "I", Cond.methodLink RX4 155 yJx4a65c_get_915e3, Cond.instanceMethod yJx4a65c_get_915e3, Cond.selects RJx4a65c yJx4a65c_get_915e3 yJx4a65c_get_915e3, Cond.code yJx4a65c_get_915e3 cJx4a65c_get_915e3 2 (some (.object "java/lang/Object")), Cond.methodLink RJx4a65c 118 yJ15_checkIndex_7cf53]
def wsX4_mapped_r2 : List Cond := [Cond.static yJ15_checkIndex_7cf53, Cond.initialized RJ15, Cond.code yJ15_checkIndex_7cf53 cJ15_checkIndex_7cf53 2 (some .int), Cond.methodLink RJ15 105 yJ3_checkIndex_8e157, Cond.static yJ3_checkIndex_8e157, Cond.initialized RJ3, Cond.code yJ3_checkIndex_8e157 cJ3_checkIndex_8e157 3 (some .int), Cond.methodLink RJx4a65c 123 yJx4a65c_elementData_915e3, Cond.instanceMethod yJx4a65c_elementData_915e3, Cond.selects RJx4a65c yJx4a65c_elementData_915e3 yJx4a65c_elementData_915e3, Cond.code yJx4a65c_elementData_915e3 cJx4a65c_elementData_915e3 2 (some (.object "java/lang/Object")), Cond.fieldLink RJx4a65c 9 "java/util/ArrayList" "elementData" "[Ljava/lang/Object;", Cond.methodLink RX4 125 yX4_mappingOf, Cond.instanceMethod yX4_mappingOf, Cond.selects RX4 yX4_mappingOf yX4_mappingOf, Cond.code yX4_mappingOf cX4_mappingOf 5 (some (.object "ShareMover$Mapping")), Cond.fieldLink RX4 26 "ShareMover" "mapping" "LShareMover$Mapping;", Cond.fieldLink RX4 145 "ShareMover$Mapping" "lost" "I", Cond.methodLink RX4 148 yX4_findHeld, Cond.instanceMethod yX4_findHeld, Cond.selects RX4 yX4_findHeld yX4_findHeld, Cond.code yX4_findHeld cX4_findHeld 3 none, Cond.fieldLink RX4 209 "ShareMover$Mapping" "held" "[I", Cond.methodLink RX4 118 yX4_rightsByEntries]
def wsX4_mapped_r3 : List Cond := [Cond.instanceMethod yX4_rightsByEntries, Cond.selects RX4 yX4_rightsByEntries yX4_rightsByEntries, Cond.code yX4_rightsByEntries cX4_rightsByEntries 8 (some .int), Cond.fieldLink RX4 81 "ShareMover$Folder" "owner" "I", Cond.fieldLink RX4 99 "ShareMover$Folder" "row" "Ljava/util/ArrayList;", Cond.classLink RX4 104 "ShareMover$Entry", Cond.fieldLink RX4 193 "ShareMover$Entry" "allows" "Z", Cond.fieldLink RX4 115 "ShareMover$Entry" "rights" "I", Cond.methodLink RX4 185 yX0_counts, Cond.instanceMethod yX0_counts, Cond.selects RX0 yX0_counts yX0_counts, Cond.initialized RX0, Cond.code yX0_counts cX0_counts 2 (some .boolean), Cond.fieldLink RX0 22 "ShareMover$Entry" "scope" "I", Cond.methodLink RX4 189 yX4_isFor, Cond.instanceMethod yX4_isFor, Cond.selects RX4 yX4_isFor yX4_isFor, Cond.code yX4_isFor cX4_isFor 3 (some .boolean), Cond.fieldLink RX4 182 "ShareMover$Entry" "who" "I", Cond.fieldLink RX4 12 "ShareMover" "groups" "LShareMover$Groups;", Cond.methodLink RX4 68 yX2_everyoneIn, Cond.instanceMethod yX2_everyoneIn, Cond.selects RX2 yX2_everyoneIn yX2_everyoneIn, Cond.initialized RX2]
def wsX4_mapped_r4 : List Cond := [Cond.code yX2_everyoneIn cX2_everyoneIn 2 (some .int), Cond.fieldLink RX2 18 "ShareMover$Groups" "everyone" "[I", Cond.methodLink RX4 54 yX4_contains, Cond.static yX4_contains, Cond.code yX4_contains cX4_contains 2 (some .boolean), Cond.methodLink RX4 196 yX1_inheritsFrom, Cond.instanceMethod yX1_inheritsFrom, Cond.selects RX1 yX1_inheritsFrom yX1_inheritsFrom, Cond.initialized RX1, Cond.code yX1_inheritsFrom cX1_inheritsFrom 1 (some (.object "ShareMover$Folder")), Cond.fieldLink RX1 22 "ShareMover$Folder" "inherits" "Z", Cond.fieldLink RX1 32 "ShareMover$Folder" "parent" "LShareMover$Folder;", Cond.methodLink RX4 152 yX4_mapWith, Cond.instanceMethod yX4_mapWith, Cond.selects RX4 yX4_mapWith yX4_mapWith, Cond.code yX4_mapWith cX4_mapWith 4 none, Cond.methodLink RX4 212 yX3_make, Cond.instanceMethod yX3_make, Cond.selects RX3 yX3_make yX3_make, Cond.initialized RX3, Cond.code yX3_make cX3_make 5 none, Cond.fieldLink RX3 18 "ShareMover$Mapping" "group" "I", Cond.fieldLink RX3 28 "ShareMover$Mapping" "namedPersons" "I", Cond.fieldLink RX3 31 "ShareMover$Mapping" "lost" "I"]
def wsX4_mapped_r5 : List Cond := [Cond.methodLink RX3 34 yX3_findBits, Cond.instanceMethod yX3_findBits, Cond.selects RX3 yX3_findBits yX3_findBits, Cond.code yX3_findBits cX3_findBits 5 none, Cond.fieldLink RX3 22 "ShareMover$Mapping" "groupBits" "I", Cond.fieldLink RX3 25 "ShareMover$Mapping" "otherBits" "I", Cond.fieldLink RX3 15 "ShareMover$Mapping" "given" "[I", Cond.fieldLink RX3 9 "ShareMover$Mapping" "held" "[I", Cond.methodLink RX3 42 yX3_sharedBy, Cond.instanceMethod yX3_sharedBy, Cond.selects RX3 yX3_sharedBy yX3_sharedBy, Cond.code yX3_sharedBy cX3_sharedBy 4 (some .int), Cond.methodLink RX3 50 yX3_lossOf, Cond.instanceMethod yX3_lossOf, Cond.selects RX3 yX3_lossOf yX3_lossOf, Cond.code yX3_lossOf cX3_lossOf 2 (some .int), Cond.methodLink RX3 53 yJ6_bitCount_0f7a4, Cond.static yJ6_bitCount_0f7a4, Cond.initialized RJ6, Cond.code yJ6_bitCount_0f7a4 cJ6_bitCount_0f7a4 1 (some .int), Cond.constant RJ6 265 (1431655765), Cond.constant RJ6 266 (858993459), Cond.constant RJ6 267 (252645135), Cond.methodLink RX3 38 yX3_greatestLoser]
def wsX4_mapped_r6 : List Cond := [Cond.instanceMethod yX3_greatestLoser, Cond.selects RX3 yX3_greatestLoser yX3_greatestLoser, Cond.code yX3_greatestLoser cX3_greatestLoser 3 (some .int)]
def wsX4_mapped : List Cond := .code yX4_mapped cX4_mapped 3 (some .int) :: ((wsX4_mapped_r1 ++ (wsX4_mapped_r2 ++ (wsX4_mapped_r3 ++ (wsX4_mapped_r4 ++ (wsX4_mapped_r5 ++ wsX4_mapped_r6))))) ++ wsX30 ++ wsX40 ++ wsJx4a65c0 ++ wsX10 ++ wsX00 ++ wsX20 ++ (vx_atS RX4 93 "java/lang/IndexOutOfBoundsException" ["java/lang/RuntimeException", "java/lang/Exception"]).filter goodWord)
def wsX4_loss_r1 : List Cond := [Cond.fieldLink RX4 145 "ShareMover$Mapping" "lost" "I", Cond.methodLink RX4 71 yX4_folderAt, Cond.instanceMethod yX4_folderAt, Cond.selects RX4 yX4_folderAt yX4_folderAt, Cond.initialized RX4, Cond.code yX4_folderAt cX4_folderAt 2 (some (.object "ShareMover$Folder")), Cond.classLink RX4 89 "java/lang/IndexOutOfBoundsException", Cond.initialized "java/lang/IndexOutOfBoundsException", Cond.fieldLink RX4 19 "ShareMover" "tree" "Ljava/util/ArrayList;", Cond.classLink RX4 30 "ShareMover$Folder", Cond.methodLink RX4 75 yJx4a65c_size_8abf5, Cond.instanceMethod yJx4a65c_size_8abf5, Cond.selects RJx4a65c yJx4a65c_size_8abf5 yJx4a65c_size_8abf5, Cond.initialized RJx4a65c, Cond.code yJx4a65c_size_8abf5 cJx4a65c_size_8abf5 1 (some .int), Cond.fieldLink RJx4a65c 48 "java/util/ArrayList" "size" "I", Cond.methodLink RX4 155 yJx4a65c_get_915e3, Cond.instanceMethod yJx4a65c_get_915e3, Cond.selects RJx4a65c yJx4a65c_get_915e3 yJx4a65c_get_915e3, Cond.code yJx4a65c_get_915e3 cJx4a65c_get_915e3 2 (some (.object "java/lang/Object")), Cond.methodLink RJx4a65c 118 yJ15_checkIndex_7cf53, Cond.static yJ15_checkIndex_7cf53, Cond.initialized RJ15, Cond.code yJ15_checkIndex_7cf53 cJ15_checkIndex_7cf53 2 (some .int)]
def wsX4_loss_r2 : List Cond := [Cond.methodLink RJ15 105 yJ3_checkIndex_8e157, Cond.static yJ3_checkIndex_8e157, Cond.initialized RJ3, Cond.code yJ3_checkIndex_8e157 cJ3_checkIndex_8e157 3 (some .int), Cond.methodLink RJx4a65c 123 yJx4a65c_elementData_915e3, Cond.instanceMethod yJx4a65c_elementData_915e3, Cond.selects RJx4a65c yJx4a65c_elementData_915e3 yJx4a65c_elementData_915e3, Cond.code yJx4a65c_elementData_915e3 cJx4a65c_elementData_915e3 2 (some (.object "java/lang/Object")), Cond.fieldLink RJx4a65c 9 "java/util/ArrayList" "elementData" "[Ljava/lang/Object;", Cond.methodLink RX4 125 yX4_mappingOf, Cond.instanceMethod yX4_mappingOf, Cond.selects RX4 yX4_mappingOf yX4_mappingOf, Cond.code yX4_mappingOf cX4_mappingOf 5 (some (.object "ShareMover$Mapping")), Cond.fieldLink RX4 26 "ShareMover" "mapping" "LShareMover$Mapping;", Cond.methodLink RX4 148 yX4_findHeld, Cond.instanceMethod yX4_findHeld, Cond.selects RX4 yX4_findHeld yX4_findHeld, Cond.code yX4_findHeld cX4_findHeld 3 none, Cond.fieldLink RX4 209 "ShareMover$Mapping" "held" "[I", Cond.methodLink RX4 118 yX4_rightsByEntries, Cond.instanceMethod yX4_rightsByEntries, Cond.selects RX4 yX4_rightsByEntries yX4_rightsByEntries, Cond.code yX4_rightsByEntries cX4_rightsByEntries 8 (some .int), Cond.fieldLink RX4 81 "ShareMover$Folder" "owner" "I"]
def wsX4_loss_r3 : List Cond := [Cond.fieldLink RX4 99 "ShareMover$Folder" "row" "Ljava/util/ArrayList;", Cond.classLink RX4 104 "ShareMover$Entry", Cond.fieldLink RX4 193 "ShareMover$Entry" "allows" "Z", Cond.fieldLink RX4 115 "ShareMover$Entry" "rights" "I", Cond.methodLink RX4 185 yX0_counts, Cond.instanceMethod yX0_counts, Cond.selects RX0 yX0_counts yX0_counts, Cond.initialized RX0, Cond.code yX0_counts cX0_counts 2 (some .boolean), Cond.fieldLink RX0 22 "ShareMover$Entry" "scope" "I", Cond.methodLink RX4 189 yX4_isFor, Cond.instanceMethod yX4_isFor, Cond.selects RX4 yX4_isFor yX4_isFor, Cond.code yX4_isFor cX4_isFor 3 (some .boolean), Cond.fieldLink RX4 182 "ShareMover$Entry" "who" "I", Cond.fieldLink RX4 12 "ShareMover" "groups" "LShareMover$Groups;", Cond.methodLink RX4 68 yX2_everyoneIn, Cond.instanceMethod yX2_everyoneIn, Cond.selects RX2 yX2_everyoneIn yX2_everyoneIn, Cond.initialized RX2, Cond.code yX2_everyoneIn cX2_everyoneIn 2 (some .int), Cond.fieldLink RX2 18 "ShareMover$Groups" "everyone" "[I", Cond.methodLink RX4 54 yX4_contains, Cond.static yX4_contains]
def wsX4_loss_r4 : List Cond := [Cond.code yX4_contains cX4_contains 2 (some .boolean), Cond.methodLink RX4 196 yX1_inheritsFrom, Cond.instanceMethod yX1_inheritsFrom, Cond.selects RX1 yX1_inheritsFrom yX1_inheritsFrom, Cond.initialized RX1, Cond.code yX1_inheritsFrom cX1_inheritsFrom 1 (some (.object "ShareMover$Folder")), Cond.fieldLink RX1 22 "ShareMover$Folder" "inherits" "Z", Cond.fieldLink RX1 32 "ShareMover$Folder" "parent" "LShareMover$Folder;", Cond.methodLink RX4 152 yX4_mapWith, Cond.instanceMethod yX4_mapWith, Cond.selects RX4 yX4_mapWith yX4_mapWith, Cond.code yX4_mapWith cX4_mapWith 4 none, Cond.methodLink RX4 212 yX3_make, Cond.instanceMethod yX3_make, Cond.selects RX3 yX3_make yX3_make, Cond.initialized RX3, Cond.code yX3_make cX3_make 5 none, Cond.fieldLink RX3 18 "ShareMover$Mapping" "group" "I", Cond.fieldLink RX3 28 "ShareMover$Mapping" "namedPersons" "I", Cond.fieldLink RX3 31 "ShareMover$Mapping" "lost" "I", Cond.methodLink RX3 34 yX3_findBits, Cond.instanceMethod yX3_findBits, Cond.selects RX3 yX3_findBits yX3_findBits, Cond.code yX3_findBits cX3_findBits 5 none]
def wsX4_loss_r5 : List Cond := [Cond.fieldLink RX3 22 "ShareMover$Mapping" "groupBits" "I", Cond.fieldLink RX3 25 "ShareMover$Mapping" "otherBits" "I", Cond.fieldLink RX3 15 "ShareMover$Mapping" "given" "[I", Cond.fieldLink RX3 9 "ShareMover$Mapping" "held" "[I", Cond.methodLink RX3 42 yX3_sharedBy, Cond.instanceMethod yX3_sharedBy, Cond.selects RX3 yX3_sharedBy yX3_sharedBy, Cond.code yX3_sharedBy cX3_sharedBy 4 (some .int), Cond.methodLink RX3 50 yX3_lossOf, Cond.instanceMethod yX3_lossOf, Cond.selects RX3 yX3_lossOf yX3_lossOf, Cond.code yX3_lossOf cX3_lossOf 2 (some .int), Cond.methodLink RX3 53 yJ6_bitCount_0f7a4, Cond.static yJ6_bitCount_0f7a4, Cond.initialized RJ6, Cond.code yJ6_bitCount_0f7a4 cJ6_bitCount_0f7a4 1 (some .int), Cond.constant RJ6 265 (1431655765), Cond.constant RJ6 266 (858993459), Cond.constant RJ6 267 (252645135), Cond.methodLink RX3 38 yX3_greatestLoser, Cond.instanceMethod yX3_greatestLoser, Cond.selects RX3 yX3_greatestLoser yX3_greatestLoser, Cond.code yX3_greatestLoser cX3_greatestLoser 3 (some .int)]
def wsX4_loss : List Cond := .code yX4_loss cX4_loss 2 (some .int) :: ((wsX4_loss_r1 ++ (wsX4_loss_r2 ++ (wsX4_loss_r3 ++ (wsX4_loss_r4 ++ wsX4_loss_r5)))) ++ wsX30 ++ wsX40 ++ wsJx4a65c0 ++ wsX10 ++ wsX00 ++ wsX20 ++ (vx_atS RX4 93 "java/lang/IndexOutOfBoundsException" ["java/lang/RuntimeException", "java/lang/Exception"]).filter goodWord)
def wsX4_lossWith_r1 : List Cond := [Cond.fieldLink RX4 26 "ShareMover" "mapping" "LShareMover$Mapping;", Cond.fieldLink RX4 145 "ShareMover$Mapping" "lost" "I", Cond.methodLink RX4 71 yX4_folderAt, Cond.instanceMethod yX4_folderAt, Cond.selects RX4 yX4_folderAt yX4_folderAt, Cond.initialized RX4, Cond.code yX4_folderAt cX4_folderAt 2 (some (.object "ShareMover$Folder")), Cond.classLink RX4 89 "java/lang/IndexOutOfBoundsException", Cond.initialized "java/lang/IndexOutOfBoundsException", Cond.fieldLink RX4 19 "ShareMover" "tree" "Ljava/util/ArrayList;", Cond.classLink RX4 30 "ShareMover$Folder", Cond.methodLink RX4 75 yJx4a65c_size_8abf5, Cond.instanceMethod yJx4a65c_size_8abf5, Cond.selects RJx4a65c yJx4a65c_size_8abf5 yJx4a65c_size_8abf5, Cond.initialized RJx4a65c, Cond.code yJx4a65c_size_8abf5 cJx4a65c_size_8abf5 1 (some .int), Cond.fieldLink RJx4a65c 48 "java/util/ArrayList" "size" "I", Cond.methodLink RX4 155 yJx4a65c_get_915e3, Cond.instanceMethod yJx4a65c_get_915e3, Cond.selects RJx4a65c yJx4a65c_get_915e3 yJx4a65c_get_915e3, Cond.code yJx4a65c_get_915e3 cJx4a65c_get_915e3 2 (some (.object "java/lang/Object")), Cond.methodLink RJx4a65c 118 yJ15_checkIndex_7cf53, Cond.static yJ15_checkIndex_7cf53, Cond.initialized RJ15]
def wsX4_lossWith_r2 : List Cond := [Cond.code yJ15_checkIndex_7cf53 cJ15_checkIndex_7cf53 2 (some .int), Cond.methodLink RJ15 105 yJ3_checkIndex_8e157, Cond.static yJ3_checkIndex_8e157, Cond.initialized RJ3, Cond.code yJ3_checkIndex_8e157 cJ3_checkIndex_8e157 3 (some .int), Cond.methodLink RJx4a65c 123 yJx4a65c_elementData_915e3, Cond.instanceMethod yJx4a65c_elementData_915e3, Cond.selects RJx4a65c yJx4a65c_elementData_915e3 yJx4a65c_elementData_915e3, Cond.code yJx4a65c_elementData_915e3 cJx4a65c_elementData_915e3 2 (some (.object "java/lang/Object")), Cond.fieldLink RJx4a65c 9 "java/util/ArrayList" "elementData" "[Ljava/lang/Object;", Cond.methodLink RX4 39 yX4_refuseNoGroup, Cond.static yX4_refuseNoGroup, Cond.code yX4_refuseNoGroup cX4_refuseNoGroup 1 none, Cond.methodLink RX4 148 yX4_findHeld, Cond.instanceMethod yX4_findHeld, Cond.selects RX4 yX4_findHeld yX4_findHeld, Cond.code yX4_findHeld cX4_findHeld 3 none, Cond.fieldLink RX4 209 "ShareMover$Mapping" "held" "[I", Cond.methodLink RX4 118 yX4_rightsByEntries, Cond.instanceMethod yX4_rightsByEntries, Cond.selects RX4 yX4_rightsByEntries yX4_rightsByEntries, Cond.code yX4_rightsByEntries cX4_rightsByEntries 8 (some .int), Cond.fieldLink RX4 81 "ShareMover$Folder" "owner" "I", Cond.fieldLink RX4 99 "ShareMover$Folder" "row" "Ljava/util/ArrayList;"]
def wsX4_lossWith_r3 : List Cond := [Cond.classLink RX4 104 "ShareMover$Entry", Cond.fieldLink RX4 193 "ShareMover$Entry" "allows" "Z", Cond.fieldLink RX4 115 "ShareMover$Entry" "rights" "I", Cond.methodLink RX4 185 yX0_counts, Cond.instanceMethod yX0_counts, Cond.selects RX0 yX0_counts yX0_counts, Cond.initialized RX0, Cond.code yX0_counts cX0_counts 2 (some .boolean), Cond.fieldLink RX0 22 "ShareMover$Entry" "scope" "I", Cond.methodLink RX4 189 yX4_isFor, Cond.instanceMethod yX4_isFor, Cond.selects RX4 yX4_isFor yX4_isFor, Cond.code yX4_isFor cX4_isFor 3 (some .boolean), Cond.fieldLink RX4 182 "ShareMover$Entry" "who" "I", Cond.fieldLink RX4 12 "ShareMover" "groups" "LShareMover$Groups;", Cond.methodLink RX4 68 yX2_everyoneIn, Cond.instanceMethod yX2_everyoneIn, Cond.selects RX2 yX2_everyoneIn yX2_everyoneIn, Cond.initialized RX2, Cond.code yX2_everyoneIn cX2_everyoneIn 2 (some .int), Cond.fieldLink RX2 18 "ShareMover$Groups" "everyone" "[I", Cond.methodLink RX4 54 yX4_contains, Cond.static yX4_contains, Cond.code yX4_contains cX4_contains 2 (some .boolean)]
def wsX4_lossWith_r4 : List Cond := [Cond.methodLink RX4 196 yX1_inheritsFrom, Cond.instanceMethod yX1_inheritsFrom, Cond.selects RX1 yX1_inheritsFrom yX1_inheritsFrom, Cond.initialized RX1, Cond.code yX1_inheritsFrom cX1_inheritsFrom 1 (some (.object "ShareMover$Folder")), Cond.fieldLink RX1 22 "ShareMover$Folder" "inherits" "Z", Cond.fieldLink RX1 32 "ShareMover$Folder" "parent" "LShareMover$Folder;", Cond.methodLink RX4 152 yX4_mapWith, Cond.instanceMethod yX4_mapWith, Cond.selects RX4 yX4_mapWith yX4_mapWith, Cond.code yX4_mapWith cX4_mapWith 4 none, Cond.methodLink RX4 212 yX3_make, Cond.instanceMethod yX3_make, Cond.selects RX3 yX3_make yX3_make, Cond.initialized RX3, Cond.code yX3_make cX3_make 5 none, Cond.fieldLink RX3 18 "ShareMover$Mapping" "group" "I", Cond.fieldLink RX3 28 "ShareMover$Mapping" "namedPersons" "I", Cond.fieldLink RX3 31 "ShareMover$Mapping" "lost" "I", Cond.methodLink RX3 34 yX3_findBits, Cond.instanceMethod yX3_findBits, Cond.selects RX3 yX3_findBits yX3_findBits, Cond.code yX3_findBits cX3_findBits 5 none, Cond.fieldLink RX3 22 "ShareMover$Mapping" "groupBits" "I"]
def wsX4_lossWith_r5 : List Cond := [Cond.fieldLink RX3 25 "ShareMover$Mapping" "otherBits" "I", Cond.fieldLink RX3 15 "ShareMover$Mapping" "given" "[I", Cond.fieldLink RX3 9 "ShareMover$Mapping" "held" "[I", Cond.methodLink RX3 42 yX3_sharedBy, Cond.instanceMethod yX3_sharedBy, Cond.selects RX3 yX3_sharedBy yX3_sharedBy, Cond.code yX3_sharedBy cX3_sharedBy 4 (some .int), Cond.methodLink RX3 50 yX3_lossOf, Cond.instanceMethod yX3_lossOf, Cond.selects RX3 yX3_lossOf yX3_lossOf, Cond.code yX3_lossOf cX3_lossOf 2 (some .int), Cond.methodLink RX3 53 yJ6_bitCount_0f7a4, Cond.static yJ6_bitCount_0f7a4, Cond.initialized RJ6, Cond.code yJ6_bitCount_0f7a4 cJ6_bitCount_0f7a4 1 (some .int), Cond.constant RJ6 265 (1431655765), Cond.constant RJ6 266 (858993459), Cond.constant RJ6 267 (252645135), Cond.methodLink RX3 38 yX3_greatestLoser, Cond.instanceMethod yX3_greatestLoser, Cond.selects RX3 yX3_greatestLoser yX3_greatestLoser, Cond.code yX3_greatestLoser cX3_greatestLoser 3 (some .int)]
def wsX4_lossWith : List Cond := .code yX4_lossWith cX4_lossWith 4 (some .int) :: ((wsX4_lossWith_r1 ++ (wsX4_lossWith_r2 ++ (wsX4_lossWith_r3 ++ (wsX4_lossWith_r4 ++ wsX4_lossWith_r5)))) ++ wsX40 ++ wsX30 ++ wsJx4a65c0 ++ wsX10 ++ wsX00 ++ wsX20 ++ (vx_atS RX4 93 "java/lang/IndexOutOfBoundsException" ["java/lang/RuntimeException", "java/lang/Exception"]).filter goodWord)
def wsX4_pass_r1 : List Cond := [Cond.fieldLink RX4 19 "ShareMover" "tree" "Ljava/util/ArrayList;", Cond.classLink RX4 30 "ShareMover$Folder", Cond.fieldLink RX4 141 "ShareMover$Mapping" "given" "[I", Cond.methodLink RX4 75 yJx4a65c_size_8abf5, Cond.instanceMethod yJx4a65c_size_8abf5, Cond.selects RJx4a65c yJx4a65c_size_8abf5 yJx4a65c_size_8abf5, Cond.initialized RJx4a65c, Cond.code yJx4a65c_size_8abf5 cJx4a65c_size_8abf5 1 (some .int), Cond.fieldLink RJx4a65c 48 "java/util/ArrayList" "size" "I", Cond.methodLink RX4 155 yJx4a65c_get_915e3, Cond.instanceMethod yJx4a65c_get_915e3, Cond.selects RJx4a65c yJx4a65c_get_915e3 yJx4a65c_get_915e3, Cond.code yJx4a65c_get_915e3 cJx4a65c_get_915e3 2 (some (.object "java/lang/Object")), Cond.methodLink RJx4a65c 118 yJ15_checkIndex_7cf53, Cond.static yJ15_checkIndex_7cf53, Cond.initialized RJ15, Cond.code yJ15_checkIndex_7cf53 cJ15_checkIndex_7cf53 2 (some .int), Cond.methodLink RJ15 105 yJ3_checkIndex_8e157, Cond.static yJ3_checkIndex_8e157, Cond.initialized RJ3, Cond.code yJ3_checkIndex_8e157 cJ3_checkIndex_8e157 3 (some .int), Cond.methodLink RJx4a65c 123 yJx4a65c_elementData_915e3, Cond.instanceMethod yJx4a65c_elementData_915e3, Cond.selects RJx4a65c yJx4a65c_elementData_915e3 yJx4a65c_elementData_915e3]
def wsX4_pass_r2 : List Cond := [Cond.code yJx4a65c_elementData_915e3 cJx4a65c_elementData_915e3 2 (some (.object "java/lang/Object")), Cond.fieldLink RJx4a65c 9 "java/util/ArrayList" "elementData" "[Ljava/lang/Object;", Cond.methodLink RX4 125 yX4_mappingOf, Cond.instanceMethod yX4_mappingOf, Cond.selects RX4 yX4_mappingOf yX4_mappingOf, Cond.initialized RX4, Cond.code yX4_mappingOf cX4_mappingOf 5 (some (.object "ShareMover$Mapping")), Cond.fieldLink RX4 26 "ShareMover" "mapping" "LShareMover$Mapping;", Cond.fieldLink RX4 145 "ShareMover$Mapping" "lost" "I", Cond.methodLink RX4 148 yX4_findHeld, Cond.instanceMethod yX4_findHeld, Cond.selects RX4 yX4_findHeld yX4_findHeld, Cond.code yX4_findHeld cX4_findHeld 3 none, Cond.fieldLink RX4 209 "ShareMover$Mapping" "held" "[I", Cond.methodLink RX4 118 yX4_rightsByEntries, Cond.instanceMethod yX4_rightsByEntries, Cond.selects RX4 yX4_rightsByEntries yX4_rightsByEntries, Cond.code yX4_rightsByEntries cX4_rightsByEntries 8 (some .int), Cond.fieldLink RX4 81 "ShareMover$Folder" "owner" "I", Cond.fieldLink RX4 99 "ShareMover$Folder" "row" "Ljava/util/ArrayList;", Cond.classLink RX4 104 "ShareMover$Entry", Cond.fieldLink RX4 193 "ShareMover$Entry" "allows" "Z", Cond.fieldLink RX4 115 "ShareMover$Entry" "rights" "I", Cond.methodLink RX4 185 yX0_counts]
def wsX4_pass_r3 : List Cond := [Cond.instanceMethod yX0_counts, Cond.selects RX0 yX0_counts yX0_counts, Cond.initialized RX0, Cond.code yX0_counts cX0_counts 2 (some .boolean), Cond.fieldLink RX0 22 "ShareMover$Entry" "scope" "I", Cond.methodLink RX4 189 yX4_isFor, Cond.instanceMethod yX4_isFor, Cond.selects RX4 yX4_isFor yX4_isFor, Cond.code yX4_isFor cX4_isFor 3 (some .boolean), Cond.fieldLink RX4 182 "ShareMover$Entry" "who" "I", Cond.fieldLink RX4 12 "ShareMover" "groups" "LShareMover$Groups;", Cond.methodLink RX4 68 yX2_everyoneIn, Cond.instanceMethod yX2_everyoneIn, Cond.selects RX2 yX2_everyoneIn yX2_everyoneIn, Cond.initialized RX2, Cond.code yX2_everyoneIn cX2_everyoneIn 2 (some .int), Cond.fieldLink RX2 18 "ShareMover$Groups" "everyone" "[I", Cond.methodLink RX4 54 yX4_contains, Cond.static yX4_contains, Cond.code yX4_contains cX4_contains 2 (some .boolean), Cond.methodLink RX4 196 yX1_inheritsFrom, Cond.instanceMethod yX1_inheritsFrom, Cond.selects RX1 yX1_inheritsFrom yX1_inheritsFrom, Cond.initialized RX1]
def wsX4_pass_r4 : List Cond := [Cond.code yX1_inheritsFrom cX1_inheritsFrom 1 (some (.object "ShareMover$Folder")), Cond.fieldLink RX1 22 "ShareMover$Folder" "inherits" "Z", Cond.fieldLink RX1 32 "ShareMover$Folder" "parent" "LShareMover$Folder;", Cond.methodLink RX4 152 yX4_mapWith, Cond.instanceMethod yX4_mapWith, Cond.selects RX4 yX4_mapWith yX4_mapWith, Cond.code yX4_mapWith cX4_mapWith 4 none, Cond.methodLink RX4 212 yX3_make, Cond.instanceMethod yX3_make, Cond.selects RX3 yX3_make yX3_make, Cond.initialized RX3, Cond.code yX3_make cX3_make 5 none, Cond.fieldLink RX3 18 "ShareMover$Mapping" "group" "I", Cond.fieldLink RX3 28 "ShareMover$Mapping" "namedPersons" "I", Cond.fieldLink RX3 31 "ShareMover$Mapping" "lost" "I", Cond.methodLink RX3 34 yX3_findBits, Cond.instanceMethod yX3_findBits, Cond.selects RX3 yX3_findBits yX3_findBits, Cond.code yX3_findBits cX3_findBits 5 none, Cond.fieldLink RX3 22 "ShareMover$Mapping" "groupBits" "I", Cond.fieldLink RX3 25 "ShareMover$Mapping" "otherBits" "I", Cond.fieldLink RX3 15 "ShareMover$Mapping" "given" "[I", Cond.fieldLink RX3 9 "ShareMover$Mapping" "held" "[I", Cond.methodLink RX3 42 yX3_sharedBy]
def wsX4_pass_r5 : List Cond := [Cond.instanceMethod yX3_sharedBy, Cond.selects RX3 yX3_sharedBy yX3_sharedBy, Cond.code yX3_sharedBy cX3_sharedBy 4 (some .int), Cond.methodLink RX3 50 yX3_lossOf, Cond.instanceMethod yX3_lossOf, Cond.selects RX3 yX3_lossOf yX3_lossOf, Cond.code yX3_lossOf cX3_lossOf 2 (some .int), Cond.methodLink RX3 53 yJ6_bitCount_0f7a4, Cond.static yJ6_bitCount_0f7a4, Cond.initialized RJ6, Cond.code yJ6_bitCount_0f7a4 cJ6_bitCount_0f7a4 1 (some .int), Cond.constant RJ6 265 (1431655765), Cond.constant RJ6 266 (858993459), Cond.constant RJ6 267 (252645135), Cond.methodLink RX3 38 yX3_greatestLoser, Cond.instanceMethod yX3_greatestLoser, Cond.selects RX3 yX3_greatestLoser yX3_greatestLoser, Cond.code yX3_greatestLoser cX3_greatestLoser 3 (some .int), Cond.methodLink RX4 158 yX1_keep, Cond.instanceMethod yX1_keep, Cond.selects RX1 yX1_keep yX1_keep, Cond.code yX1_keep cX1_keep 3 (some .boolean), Cond.fieldLink RX1 18 "ShareMover$Folder" "kept" "[I", Cond.methodLink RX1 48 arraycopyName]
def wsX4_pass_r6 : List Cond := [Cond.native arraycopyName, Cond.static arraycopyName, Cond.initialized "java/lang/System", Cond.fieldLink RX1 26 "ShareMover$Folder" "hasKept" "Z", Cond.methodLink RX1 44 yX1_keeps, Cond.instanceMethod yX1_keeps, Cond.selects RX1 yX1_keeps yX1_keeps, Cond.code yX1_keeps cX1_keeps 3 (some .boolean)]
def wsX4_pass : List Cond := .code yX4_pass cX4_pass 4 (some .int) :: ((wsX4_pass_r1 ++ (wsX4_pass_r2 ++ (wsX4_pass_r3 ++ (wsX4_pass_r4 ++ (wsX4_pass_r5 ++ wsX4_pass_r6))))) ++ wsX40 ++ wsX30 ++ wsJx4a65c0 ++ wsX10 ++ wsX00 ++ wsX20)
def wsX4_isFresh_r1 : List Cond := [Cond.fieldLink RX4 141 "ShareMover$Mapping" "given" "[I", Cond.methodLink RX4 71 yX4_folderAt, Cond.instanceMethod yX4_folderAt, Cond.selects RX4 yX4_folderAt yX4_folderAt, Cond.initialized RX4, Cond.code yX4_folderAt cX4_folderAt 2 (some (.object "ShareMover$Folder")), Cond.classLink RX4 89 "java/lang/IndexOutOfBoundsException", Cond.initialized "java/lang/IndexOutOfBoundsException", Cond.fieldLink RX4 19 "ShareMover" "tree" "Ljava/util/ArrayList;", Cond.classLink RX4 30 "ShareMover$Folder", Cond.methodLink RX4 75 yJx4a65c_size_8abf5, Cond.instanceMethod yJx4a65c_size_8abf5, Cond.selects RJx4a65c yJx4a65c_size_8abf5 yJx4a65c_size_8abf5, Cond.initialized RJx4a65c, Cond.code yJx4a65c_size_8abf5 cJx4a65c_size_8abf5 1 (some .int), Cond.fieldLink RJx4a65c 48 "java/util/ArrayList" "size" "I", Cond.methodLink RX4 155 yJx4a65c_get_915e3, Cond.instanceMethod yJx4a65c_get_915e3, Cond.selects RJx4a65c yJx4a65c_get_915e3 yJx4a65c_get_915e3, Cond.code yJx4a65c_get_915e3 cJx4a65c_get_915e3 2 (some (.object "java/lang/Object")), Cond.methodLink RJx4a65c 118 yJ15_checkIndex_7cf53, Cond.static yJ15_checkIndex_7cf53, Cond.initialized RJ15, Cond.code yJ15_checkIndex_7cf53 cJ15_checkIndex_7cf53 2 (some .int)]
def wsX4_isFresh_r2 : List Cond := [Cond.methodLink RJ15 105 yJ3_checkIndex_8e157, Cond.static yJ3_checkIndex_8e157, Cond.initialized RJ3, Cond.code yJ3_checkIndex_8e157 cJ3_checkIndex_8e157 3 (some .int), Cond.methodLink RJx4a65c 123 yJx4a65c_elementData_915e3, Cond.instanceMethod yJx4a65c_elementData_915e3, Cond.selects RJx4a65c yJx4a65c_elementData_915e3 yJx4a65c_elementData_915e3, Cond.code yJx4a65c_elementData_915e3 cJx4a65c_elementData_915e3 2 (some (.object "java/lang/Object")), Cond.fieldLink RJx4a65c 9 "java/util/ArrayList" "elementData" "[Ljava/lang/Object;", Cond.methodLink RX4 125 yX4_mappingOf, Cond.instanceMethod yX4_mappingOf, Cond.selects RX4 yX4_mappingOf yX4_mappingOf, Cond.code yX4_mappingOf cX4_mappingOf 5 (some (.object "ShareMover$Mapping")), Cond.fieldLink RX4 26 "ShareMover" "mapping" "LShareMover$Mapping;", Cond.fieldLink RX4 145 "ShareMover$Mapping" "lost" "I", Cond.methodLink RX4 148 yX4_findHeld, Cond.instanceMethod yX4_findHeld, Cond.selects RX4 yX4_findHeld yX4_findHeld, Cond.code yX4_findHeld cX4_findHeld 3 none, Cond.fieldLink RX4 209 "ShareMover$Mapping" "held" "[I", Cond.methodLink RX4 118 yX4_rightsByEntries, Cond.instanceMethod yX4_rightsByEntries, Cond.selects RX4 yX4_rightsByEntries yX4_rightsByEntries, Cond.code yX4_rightsByEntries cX4_rightsByEntries 8 (some .int)]
def wsX4_isFresh_r3 : List Cond := [Cond.fieldLink RX4 81 "ShareMover$Folder" "owner" "I", Cond.fieldLink RX4 99 "ShareMover$Folder" "row" "Ljava/util/ArrayList;", Cond.classLink RX4 104 "ShareMover$Entry", Cond.fieldLink RX4 193 "ShareMover$Entry" "allows" "Z", Cond.fieldLink RX4 115 "ShareMover$Entry" "rights" "I", Cond.methodLink RX4 185 yX0_counts, Cond.instanceMethod yX0_counts, Cond.selects RX0 yX0_counts yX0_counts, Cond.initialized RX0, Cond.code yX0_counts cX0_counts 2 (some .boolean), Cond.fieldLink RX0 22 "ShareMover$Entry" "scope" "I", Cond.methodLink RX4 189 yX4_isFor, Cond.instanceMethod yX4_isFor, Cond.selects RX4 yX4_isFor yX4_isFor, Cond.code yX4_isFor cX4_isFor 3 (some .boolean), Cond.fieldLink RX4 182 "ShareMover$Entry" "who" "I", Cond.fieldLink RX4 12 "ShareMover" "groups" "LShareMover$Groups;", Cond.methodLink RX4 68 yX2_everyoneIn, Cond.instanceMethod yX2_everyoneIn, Cond.selects RX2 yX2_everyoneIn yX2_everyoneIn, Cond.initialized RX2, Cond.code yX2_everyoneIn cX2_everyoneIn 2 (some .int), Cond.fieldLink RX2 18 "ShareMover$Groups" "everyone" "[I", Cond.methodLink RX4 54 yX4_contains]
def wsX4_isFresh_r4 : List Cond := [Cond.static yX4_contains, Cond.code yX4_contains cX4_contains 2 (some .boolean), Cond.methodLink RX4 196 yX1_inheritsFrom, Cond.instanceMethod yX1_inheritsFrom, Cond.selects RX1 yX1_inheritsFrom yX1_inheritsFrom, Cond.initialized RX1, Cond.code yX1_inheritsFrom cX1_inheritsFrom 1 (some (.object "ShareMover$Folder")), Cond.fieldLink RX1 22 "ShareMover$Folder" "inherits" "Z", Cond.fieldLink RX1 32 "ShareMover$Folder" "parent" "LShareMover$Folder;", Cond.methodLink RX4 152 yX4_mapWith, Cond.instanceMethod yX4_mapWith, Cond.selects RX4 yX4_mapWith yX4_mapWith, Cond.code yX4_mapWith cX4_mapWith 4 none, Cond.methodLink RX4 212 yX3_make, Cond.instanceMethod yX3_make, Cond.selects RX3 yX3_make yX3_make, Cond.initialized RX3, Cond.code yX3_make cX3_make 5 none, Cond.fieldLink RX3 18 "ShareMover$Mapping" "group" "I", Cond.fieldLink RX3 28 "ShareMover$Mapping" "namedPersons" "I", Cond.fieldLink RX3 31 "ShareMover$Mapping" "lost" "I", Cond.methodLink RX3 34 yX3_findBits, Cond.instanceMethod yX3_findBits, Cond.selects RX3 yX3_findBits yX3_findBits]
def wsX4_isFresh_r5 : List Cond := [Cond.code yX3_findBits cX3_findBits 5 none, Cond.fieldLink RX3 22 "ShareMover$Mapping" "groupBits" "I", Cond.fieldLink RX3 25 "ShareMover$Mapping" "otherBits" "I", Cond.fieldLink RX3 15 "ShareMover$Mapping" "given" "[I", Cond.fieldLink RX3 9 "ShareMover$Mapping" "held" "[I", Cond.methodLink RX3 42 yX3_sharedBy, Cond.instanceMethod yX3_sharedBy, Cond.selects RX3 yX3_sharedBy yX3_sharedBy, Cond.code yX3_sharedBy cX3_sharedBy 4 (some .int), Cond.methodLink RX3 50 yX3_lossOf, Cond.instanceMethod yX3_lossOf, Cond.selects RX3 yX3_lossOf yX3_lossOf, Cond.code yX3_lossOf cX3_lossOf 2 (some .int), Cond.methodLink RX3 53 yJ6_bitCount_0f7a4, Cond.static yJ6_bitCount_0f7a4, Cond.initialized RJ6, Cond.code yJ6_bitCount_0f7a4 cJ6_bitCount_0f7a4 1 (some .int), Cond.constant RJ6 265 (1431655765), Cond.constant RJ6 266 (858993459), Cond.constant RJ6 267 (252645135), Cond.methodLink RX3 38 yX3_greatestLoser, Cond.instanceMethod yX3_greatestLoser, Cond.selects RX3 yX3_greatestLoser yX3_greatestLoser, Cond.code yX3_greatestLoser cX3_greatestLoser 3 (some .int)]
def wsX4_isFresh_r6 : List Cond := [Cond.methodLink RX4 162 yX1_keeps, Cond.instanceMethod yX1_keeps, Cond.selects RX1 yX1_keeps yX1_keeps, Cond.code yX1_keeps cX1_keeps 3 (some .boolean), Cond.fieldLink RX1 26 "ShareMover$Folder" "hasKept" "Z", Cond.fieldLink RX1 18 "ShareMover$Folder" "kept" "[I"]
def wsX4_isFresh : List Cond := .code yX4_isFresh cX4_isFresh 3 (some .boolean) :: ((wsX4_isFresh_r1 ++ (wsX4_isFresh_r2 ++ (wsX4_isFresh_r3 ++ (wsX4_isFresh_r4 ++ (wsX4_isFresh_r5 ++ wsX4_isFresh_r6))))) ++ wsX30 ++ wsX40 ++ wsJx4a65c0 ++ wsX10 ++ wsX00 ++ wsX20 ++ (vx_atS RX4 93 "java/lang/IndexOutOfBoundsException" ["java/lang/RuntimeException", "java/lang/Exception"]).filter goodWord)
def wsX4_turn_r1 : List Cond := [Cond.classLink RX4 58 "java/lang/IllegalStateException", Cond.initialized "java/lang/IllegalStateException", Cond.fieldLink RX4 165 "ShareMover$Folder" "hasKept" "Z", Cond.fieldLink RX4 170 "ShareMover$Folder" "switched" "Z", Cond.methodLink RX4 71 yX4_folderAt, Cond.instanceMethod yX4_folderAt, Cond.selects RX4 yX4_folderAt yX4_folderAt, Cond.initialized RX4, Cond.code yX4_folderAt cX4_folderAt 2 (some (.object "ShareMover$Folder")), Cond.classLink RX4 89 "java/lang/IndexOutOfBoundsException", Cond.initialized "java/lang/IndexOutOfBoundsException", Cond.fieldLink RX4 19 "ShareMover" "tree" "Ljava/util/ArrayList;", Cond.classLink RX4 30 "ShareMover$Folder", Cond.methodLink RX4 75 yJx4a65c_size_8abf5, Cond.instanceMethod yJx4a65c_size_8abf5, Cond.selects RJx4a65c yJx4a65c_size_8abf5 yJx4a65c_size_8abf5, Cond.initialized RJx4a65c, Cond.code yJx4a65c_size_8abf5 cJx4a65c_size_8abf5 1 (some .int), Cond.fieldLink RJx4a65c 48 "java/util/ArrayList" "size" "I", Cond.methodLink RX4 155 yJx4a65c_get_915e3, Cond.instanceMethod yJx4a65c_get_915e3, Cond.selects RJx4a65c yJx4a65c_get_915e3 yJx4a65c_get_915e3, Cond.code yJx4a65c_get_915e3 cJx4a65c_get_915e3 2 (some (.object "java/lang/Object")), Cond.methodLink RJx4a65c 118 yJ15_checkIndex_7cf53]
def wsX4_turn_r2 : List Cond := [Cond.static yJ15_checkIndex_7cf53, Cond.initialized RJ15, Cond.code yJ15_checkIndex_7cf53 cJ15_checkIndex_7cf53 2 (some .int), Cond.methodLink RJ15 105 yJ3_checkIndex_8e157, Cond.static yJ3_checkIndex_8e157, Cond.initialized RJ3, Cond.code yJ3_checkIndex_8e157 cJ3_checkIndex_8e157 3 (some .int), Cond.methodLink RJx4a65c 123 yJx4a65c_elementData_915e3, Cond.instanceMethod yJx4a65c_elementData_915e3, Cond.selects RJx4a65c yJx4a65c_elementData_915e3 yJx4a65c_elementData_915e3, Cond.code yJx4a65c_elementData_915e3 cJx4a65c_elementData_915e3 2 (some (.object "java/lang/Object")), Cond.fieldLink RJx4a65c 9 "java/util/ArrayList" "elementData" "[Ljava/lang/Object;"]
def wsX4_turn : List Cond := .code yX4_turn cX4_turn 3 (some .boolean) :: ((wsX4_turn_r1 ++ wsX4_turn_r2) ++ wsX10 ++ wsX40 ++ wsJx4a65c0 ++ (vx_atS RX4 62 "java/lang/IllegalStateException" ["java/lang/RuntimeException", "java/lang/Exception"]).filter goodWord ++ (vx_atS RX4 93 "java/lang/IndexOutOfBoundsException" ["java/lang/RuntimeException", "java/lang/Exception"]).filter goodWord)
def wsX4_currentRights_r1 : List Cond := [Cond.fieldLink RX4 170 "ShareMover$Folder" "switched" "Z", Cond.fieldLink RX4 206 "ShareMover$Folder" "kept" "[I", Cond.methodLink RX4 118 yX4_rightsByEntries, Cond.instanceMethod yX4_rightsByEntries, Cond.selects RX4 yX4_rightsByEntries yX4_rightsByEntries, Cond.initialized RX4, Cond.code yX4_rightsByEntries cX4_rightsByEntries 8 (some .int), Cond.fieldLink RX4 81 "ShareMover$Folder" "owner" "I", Cond.fieldLink RX4 99 "ShareMover$Folder" "row" "Ljava/util/ArrayList;", Cond.classLink RX4 104 "ShareMover$Entry", Cond.fieldLink RX4 193 "ShareMover$Entry" "allows" "Z", Cond.fieldLink RX4 115 "ShareMover$Entry" "rights" "I", Cond.methodLink RX4 75 yJx4a65c_size_8abf5, Cond.instanceMethod yJx4a65c_size_8abf5, Cond.selects RJx4a65c yJx4a65c_size_8abf5 yJx4a65c_size_8abf5, Cond.initialized RJx4a65c, Cond.code yJx4a65c_size_8abf5 cJx4a65c_size_8abf5 1 (some .int), Cond.fieldLink RJx4a65c 48 "java/util/ArrayList" "size" "I", Cond.methodLink RX4 155 yJx4a65c_get_915e3, Cond.instanceMethod yJx4a65c_get_915e3, Cond.selects RJx4a65c yJx4a65c_get_915e3 yJx4a65c_get_915e3, Cond.code yJx4a65c_get_915e3 cJx4a65c_get_915e3 2 (some (.object "java/lang/Object")), Cond.methodLink RJx4a65c 118 yJ15_checkIndex_7cf53, Cond.static yJ15_checkIndex_7cf53]
def wsX4_currentRights_r2 : List Cond := [Cond.initialized RJ15, Cond.code yJ15_checkIndex_7cf53 cJ15_checkIndex_7cf53 2 (some .int), Cond.methodLink RJ15 105 yJ3_checkIndex_8e157, Cond.static yJ3_checkIndex_8e157, Cond.initialized RJ3, Cond.code yJ3_checkIndex_8e157 cJ3_checkIndex_8e157 3 (some .int), Cond.methodLink RJx4a65c 123 yJx4a65c_elementData_915e3, Cond.instanceMethod yJx4a65c_elementData_915e3, Cond.selects RJx4a65c yJx4a65c_elementData_915e3 yJx4a65c_elementData_915e3, Cond.code yJx4a65c_elementData_915e3 cJx4a65c_elementData_915e3 2 (some (.object "java/lang/Object")), Cond.fieldLink RJx4a65c 9 "java/util/ArrayList" "elementData" "[Ljava/lang/Object;", Cond.methodLink RX4 185 yX0_counts, Cond.instanceMethod yX0_counts, Cond.selects RX0 yX0_counts yX0_counts, Cond.initialized RX0, Cond.code yX0_counts cX0_counts 2 (some .boolean), Cond.fieldLink RX0 22 "ShareMover$Entry" "scope" "I", Cond.methodLink RX4 189 yX4_isFor, Cond.instanceMethod yX4_isFor, Cond.selects RX4 yX4_isFor yX4_isFor, Cond.code yX4_isFor cX4_isFor 3 (some .boolean), Cond.fieldLink RX4 182 "ShareMover$Entry" "who" "I", Cond.fieldLink RX4 12 "ShareMover" "groups" "LShareMover$Groups;", Cond.methodLink RX4 68 yX2_everyoneIn]
def wsX4_currentRights_r3 : List Cond := [Cond.instanceMethod yX2_everyoneIn, Cond.selects RX2 yX2_everyoneIn yX2_everyoneIn, Cond.initialized RX2, Cond.code yX2_everyoneIn cX2_everyoneIn 2 (some .int), Cond.fieldLink RX2 18 "ShareMover$Groups" "everyone" "[I", Cond.methodLink RX4 54 yX4_contains, Cond.static yX4_contains, Cond.code yX4_contains cX4_contains 2 (some .boolean), Cond.methodLink RX4 196 yX1_inheritsFrom, Cond.instanceMethod yX1_inheritsFrom, Cond.selects RX1 yX1_inheritsFrom yX1_inheritsFrom, Cond.initialized RX1, Cond.code yX1_inheritsFrom cX1_inheritsFrom 1 (some (.object "ShareMover$Folder")), Cond.fieldLink RX1 22 "ShareMover$Folder" "inherits" "Z", Cond.fieldLink RX1 32 "ShareMover$Folder" "parent" "LShareMover$Folder;"]
def wsX4_currentRights : List Cond := .code yX4_currentRights cX4_currentRights 3 (some .int) :: ((wsX4_currentRights_r1 ++ (wsX4_currentRights_r2 ++ wsX4_currentRights_r3)) ++ wsX10 ++ wsX00 ++ wsJx4a65c0 ++ wsX40 ++ wsX20)
def wsX4_rightsNow_r1 : List Cond := [Cond.methodLink RX4 43 yX4_refuseNoPerson, Cond.static yX4_refuseNoPerson, Cond.initialized RX4, Cond.code yX4_refuseNoPerson cX4_refuseNoPerson 1 none, Cond.classLink RX4 89 "java/lang/IndexOutOfBoundsException", Cond.initialized "java/lang/IndexOutOfBoundsException", Cond.methodLink RX4 71 yX4_folderAt, Cond.instanceMethod yX4_folderAt, Cond.selects RX4 yX4_folderAt yX4_folderAt, Cond.code yX4_folderAt cX4_folderAt 2 (some (.object "ShareMover$Folder")), Cond.fieldLink RX4 19 "ShareMover" "tree" "Ljava/util/ArrayList;", Cond.classLink RX4 30 "ShareMover$Folder", Cond.methodLink RX4 75 yJx4a65c_size_8abf5, Cond.instanceMethod yJx4a65c_size_8abf5, Cond.selects RJx4a65c yJx4a65c_size_8abf5 yJx4a65c_size_8abf5, Cond.initialized RJx4a65c, Cond.code yJx4a65c_size_8abf5 cJx4a65c_size_8abf5 1 (some .int), Cond.fieldLink RJx4a65c 48 "java/util/ArrayList" "size" "I", Cond.methodLink RX4 155 yJx4a65c_get_915e3, Cond.instanceMethod yJx4a65c_get_915e3, Cond.selects RJx4a65c yJx4a65c_get_915e3 yJx4a65c_get_915e3, Cond.code yJx4a65c_get_915e3 cJx4a65c_get_915e3 2 (some (.object "java/lang/Object")), Cond.methodLink RJx4a65c 118 yJ15_checkIndex_7cf53, Cond.static yJ15_checkIndex_7cf53]
def wsX4_rightsNow_r2 : List Cond := [Cond.initialized RJ15, Cond.code yJ15_checkIndex_7cf53 cJ15_checkIndex_7cf53 2 (some .int), Cond.methodLink RJ15 105 yJ3_checkIndex_8e157, Cond.static yJ3_checkIndex_8e157, Cond.initialized RJ3, Cond.code yJ3_checkIndex_8e157 cJ3_checkIndex_8e157 3 (some .int), Cond.methodLink RJx4a65c 123 yJx4a65c_elementData_915e3, Cond.instanceMethod yJx4a65c_elementData_915e3, Cond.selects RJx4a65c yJx4a65c_elementData_915e3 yJx4a65c_elementData_915e3, Cond.code yJx4a65c_elementData_915e3 cJx4a65c_elementData_915e3 2 (some (.object "java/lang/Object")), Cond.fieldLink RJx4a65c 9 "java/util/ArrayList" "elementData" "[Ljava/lang/Object;", Cond.methodLink RX4 173 yX4_currentRights, Cond.instanceMethod yX4_currentRights, Cond.selects RX4 yX4_currentRights yX4_currentRights, Cond.code yX4_currentRights cX4_currentRights 3 (some .int), Cond.fieldLink RX4 170 "ShareMover$Folder" "switched" "Z", Cond.fieldLink RX4 206 "ShareMover$Folder" "kept" "[I", Cond.methodLink RX4 118 yX4_rightsByEntries, Cond.instanceMethod yX4_rightsByEntries, Cond.selects RX4 yX4_rightsByEntries yX4_rightsByEntries, Cond.code yX4_rightsByEntries cX4_rightsByEntries 8 (some .int), Cond.fieldLink RX4 81 "ShareMover$Folder" "owner" "I", Cond.fieldLink RX4 99 "ShareMover$Folder" "row" "Ljava/util/ArrayList;", Cond.classLink RX4 104 "ShareMover$Entry"]
def wsX4_rightsNow_r3 : List Cond := [Cond.fieldLink RX4 193 "ShareMover$Entry" "allows" "Z", Cond.fieldLink RX4 115 "ShareMover$Entry" "rights" "I", Cond.methodLink RX4 185 yX0_counts, Cond.instanceMethod yX0_counts, Cond.selects RX0 yX0_counts yX0_counts, Cond.initialized RX0, Cond.code yX0_counts cX0_counts 2 (some .boolean), Cond.fieldLink RX0 22 "ShareMover$Entry" "scope" "I", Cond.methodLink RX4 189 yX4_isFor, Cond.instanceMethod yX4_isFor, Cond.selects RX4 yX4_isFor yX4_isFor, Cond.code yX4_isFor cX4_isFor 3 (some .boolean), Cond.fieldLink RX4 182 "ShareMover$Entry" "who" "I", Cond.fieldLink RX4 12 "ShareMover" "groups" "LShareMover$Groups;", Cond.methodLink RX4 68 yX2_everyoneIn, Cond.instanceMethod yX2_everyoneIn, Cond.selects RX2 yX2_everyoneIn yX2_everyoneIn, Cond.initialized RX2, Cond.code yX2_everyoneIn cX2_everyoneIn 2 (some .int), Cond.fieldLink RX2 18 "ShareMover$Groups" "everyone" "[I", Cond.methodLink RX4 54 yX4_contains, Cond.static yX4_contains, Cond.code yX4_contains cX4_contains 2 (some .boolean), Cond.methodLink RX4 196 yX1_inheritsFrom]
def wsX4_rightsNow_r4 : List Cond := [Cond.instanceMethod yX1_inheritsFrom, Cond.selects RX1 yX1_inheritsFrom yX1_inheritsFrom, Cond.initialized RX1, Cond.code yX1_inheritsFrom cX1_inheritsFrom 1 (some (.object "ShareMover$Folder")), Cond.fieldLink RX1 22 "ShareMover$Folder" "inherits" "Z", Cond.fieldLink RX1 32 "ShareMover$Folder" "parent" "LShareMover$Folder;"]
def wsX4_rightsNow : List Cond := .code yX4_rightsNow cX4_rightsNow 3 (some .int) :: ((wsX4_rightsNow_r1 ++ (wsX4_rightsNow_r2 ++ (wsX4_rightsNow_r3 ++ wsX4_rightsNow_r4))) ++ wsX40 ++ wsJx4a65c0 ++ wsX10 ++ wsX00 ++ wsX20 ++ (vx_atS RX4 93 "java/lang/IndexOutOfBoundsException" ["java/lang/RuntimeException", "java/lang/Exception"]).filter goodWord)
def wsX4_gainers_r1 : List Cond := [Cond.methodLink RX4 71 yX4_folderAt, Cond.instanceMethod yX4_folderAt, Cond.selects RX4 yX4_folderAt yX4_folderAt, Cond.initialized RX4, Cond.code yX4_folderAt cX4_folderAt 2 (some (.object "ShareMover$Folder")), Cond.classLink RX4 89 "java/lang/IndexOutOfBoundsException", Cond.initialized "java/lang/IndexOutOfBoundsException", Cond.fieldLink RX4 19 "ShareMover" "tree" "Ljava/util/ArrayList;", Cond.classLink RX4 30 "ShareMover$Folder", Cond.methodLink RX4 75 yJx4a65c_size_8abf5, Cond.instanceMethod yJx4a65c_size_8abf5, Cond.selects RJx4a65c yJx4a65c_size_8abf5 yJx4a65c_size_8abf5, Cond.initialized RJx4a65c, Cond.code yJx4a65c_size_8abf5 cJx4a65c_size_8abf5 1 (some .int), Cond.fieldLink RJx4a65c 48 "java/util/ArrayList" "size" "I", Cond.methodLink RX4 155 yJx4a65c_get_915e3, Cond.instanceMethod yJx4a65c_get_915e3, Cond.selects RJx4a65c yJx4a65c_get_915e3 yJx4a65c_get_915e3, Cond.code yJx4a65c_get_915e3 cJx4a65c_get_915e3 2 (some (.object "java/lang/Object")), Cond.methodLink RJx4a65c 118 yJ15_checkIndex_7cf53, Cond.static yJ15_checkIndex_7cf53, Cond.initialized RJ15, Cond.code yJ15_checkIndex_7cf53 cJ15_checkIndex_7cf53 2 (some .int), Cond.methodLink RJ15 105 yJ3_checkIndex_8e157]
def wsX4_gainers_r2 : List Cond := [Cond.static yJ3_checkIndex_8e157, Cond.initialized RJ3, Cond.code yJ3_checkIndex_8e157 cJ3_checkIndex_8e157 3 (some .int), Cond.methodLink RJx4a65c 123 yJx4a65c_elementData_915e3, Cond.instanceMethod yJx4a65c_elementData_915e3, Cond.selects RJx4a65c yJx4a65c_elementData_915e3 yJx4a65c_elementData_915e3, Cond.code yJx4a65c_elementData_915e3 cJx4a65c_elementData_915e3 2 (some (.object "java/lang/Object")), Cond.fieldLink RJx4a65c 9 "java/util/ArrayList" "elementData" "[Ljava/lang/Object;", Cond.methodLink RX4 173 yX4_currentRights, Cond.instanceMethod yX4_currentRights, Cond.selects RX4 yX4_currentRights yX4_currentRights, Cond.code yX4_currentRights cX4_currentRights 3 (some .int), Cond.fieldLink RX4 170 "ShareMover$Folder" "switched" "Z", Cond.fieldLink RX4 206 "ShareMover$Folder" "kept" "[I", Cond.methodLink RX4 118 yX4_rightsByEntries, Cond.instanceMethod yX4_rightsByEntries, Cond.selects RX4 yX4_rightsByEntries yX4_rightsByEntries, Cond.code yX4_rightsByEntries cX4_rightsByEntries 8 (some .int), Cond.fieldLink RX4 81 "ShareMover$Folder" "owner" "I", Cond.fieldLink RX4 99 "ShareMover$Folder" "row" "Ljava/util/ArrayList;", Cond.classLink RX4 104 "ShareMover$Entry", Cond.fieldLink RX4 193 "ShareMover$Entry" "allows" "Z", Cond.fieldLink RX4 115 "ShareMover$Entry" "rights" "I", Cond.methodLink RX4 185 yX0_counts]
def wsX4_gainers_r3 : List Cond := [Cond.instanceMethod yX0_counts, Cond.selects RX0 yX0_counts yX0_counts, Cond.initialized RX0, Cond.code yX0_counts cX0_counts 2 (some .boolean), Cond.fieldLink RX0 22 "ShareMover$Entry" "scope" "I", Cond.methodLink RX4 189 yX4_isFor, Cond.instanceMethod yX4_isFor, Cond.selects RX4 yX4_isFor yX4_isFor, Cond.code yX4_isFor cX4_isFor 3 (some .boolean), Cond.fieldLink RX4 182 "ShareMover$Entry" "who" "I", Cond.fieldLink RX4 12 "ShareMover" "groups" "LShareMover$Groups;", Cond.methodLink RX4 68 yX2_everyoneIn, Cond.instanceMethod yX2_everyoneIn, Cond.selects RX2 yX2_everyoneIn yX2_everyoneIn, Cond.initialized RX2, Cond.code yX2_everyoneIn cX2_everyoneIn 2 (some .int), Cond.fieldLink RX2 18 "ShareMover$Groups" "everyone" "[I", Cond.methodLink RX4 54 yX4_contains, Cond.static yX4_contains, Cond.code yX4_contains cX4_contains 2 (some .boolean), Cond.methodLink RX4 196 yX1_inheritsFrom, Cond.instanceMethod yX1_inheritsFrom, Cond.selects RX1 yX1_inheritsFrom yX1_inheritsFrom, Cond.initialized RX1]
def wsX4_gainers_r4 : List Cond := [Cond.code yX1_inheritsFrom cX1_inheritsFrom 1 (some (.object "ShareMover$Folder")), Cond.fieldLink RX1 22 "ShareMover$Folder" "inherits" "Z", Cond.fieldLink RX1 32 "ShareMover$Folder" "parent" "LShareMover$Folder;"]
def wsX4_gainers : List Cond := .code yX4_gainers cX4_gainers 5 (some .int) :: ((wsX4_gainers_r1 ++ (wsX4_gainers_r2 ++ (wsX4_gainers_r3 ++ wsX4_gainers_r4))) ++ wsX40 ++ wsJx4a65c0 ++ wsX10 ++ wsX00 ++ wsX20 ++ (vx_atS RX4 93 "java/lang/IndexOutOfBoundsException" ["java/lang/RuntimeException", "java/lang/Exception"]).filter goodWord)
def wsX5_init : List Cond := .code yX5_init cX5_init 1 none :: ([.methodLink RX5 1 objectInit, .instanceMethod objectInit, .code objectInit ⟨#[0xb1]⟩ 1 none, .arrayClass .int, .fieldLink RX5 7 "ShareMoverModel" "persons" "[I", .fieldLink RX5 13 "ShareMoverModel" "inner" "[I", .fieldLink RX5 16 "ShareMoverModel" "parent" "[I", .fieldLink RX5 19 "ShareMoverModel" "owner" "[I", .arrayClass .boolean, .fieldLink RX5 22 "ShareMoverModel" "inherits" "[Z", .fieldLink RX5 26 "ShareMoverModel" "entries" "[I", .fieldLink RX5 29 "ShareMoverModel" "folders" "I", .fieldLink RX5 33 "ShareMoverModel" "who" "[I", .fieldLink RX5 36 "ShareMoverModel" "allows" "[Z", .fieldLink RX5 39 "ShareMoverModel" "given" "[I", .fieldLink RX5 42 "ShareMoverModel" "scope" "[I", .fieldLink RX5 45 "ShareMoverModel" "own" "[I", .fieldLink RX5 48 "ShareMoverModel" "mapped" "[I", .fieldLink RX5 51 "ShareMoverModel" "isKept" "[Z", .fieldLink RX5 54 "ShareMoverModel" "kept" "[I", .fieldLink RX5 57 "ShareMoverModel" "turned" "[Z"] ++ wsX50)
def wsX5_thrown : List Cond := .code yX5_thrown cX5_thrown 1 (some .int) :: ([.fieldLink RX5 60 "ShareMoverModel" "thrown" "I"] ++ wsX50)
def wsX5_in : List Cond := .code yX5_in cX5_in 3 (some .boolean) :: ([])
def wsX5_isFine : List Cond := .code yX5_isFine cX5_isFine 2 (some .boolean) :: ([.fieldLink RX5 60 "ShareMoverModel" "thrown" "I"] ++ wsX50)
def wsX5_isGroup : List Cond := .code yX5_isGroup cX5_isGroup 1 (some .boolean) :: ([.methodLink RX5 63 yX5_in, .static yX5_in, .initialized RX5, .code yX5_in cX5_in 3 (some .boolean)])
def wsX5_isPerson : List Cond := .code yX5_isPerson cX5_isPerson 1 (some .boolean) :: ([.methodLink RX5 63 yX5_in, .static yX5_in, .initialized RX5, .code yX5_in cX5_in 3 (some .boolean)])
def wsX5_isFolder : List Cond := .code yX5_isFolder cX5_isFolder 2 (some .boolean) :: ([.fieldLink RX5 29 "ShareMoverModel" "folders" "I", .methodLink RX5 63 yX5_in, .static yX5_in, .initialized RX5, .code yX5_in cX5_in 3 (some .boolean)] ++ wsX50)
def wsX5_has : List Cond := .code yX5_has cX5_has 2 (some .boolean) :: ([])
def wsX5_size : List Cond := .code yX5_size cX5_size 3 (some .int) :: ([])
def wsX5_groupsIn : List Cond := .code yX5_groupsIn cX5_groupsIn 5 (some .int) :: ([.fieldLink RX5 13 "ShareMoverModel" "inner" "[I", .methodLink RX5 67 yX5_has, .static yX5_has, .initialized RX5, .code yX5_has cX5_has 2 (some .boolean)] ++ wsX50)
def wsX5_membersOf : List Cond := .code yX5_membersOf cX5_membersOf 5 (some .int) :: ([.fieldLink RX5 7 "ShareMoverModel" "persons" "[I", .methodLink RX5 71 yX5_groupsIn, .instanceMethod yX5_groupsIn, .selects RX5 yX5_groupsIn yX5_groupsIn, .initialized RX5, .code yX5_groupsIn cX5_groupsIn 5 (some .int), .fieldLink RX5 13 "ShareMoverModel" "inner" "[I", .methodLink RX5 67 yX5_has, .static yX5_has, .code yX5_has cX5_has 2 (some .boolean)] ++ wsX50)
def wsX5_setMember : List Cond := .code yX5_setMember cX5_setMember 5 (some .boolean) :: ([.fieldLink RX5 7 "ShareMoverModel" "persons" "[I", .methodLink RX5 75 yX5_isGroup, .static yX5_isGroup, .initialized RX5, .code yX5_isGroup cX5_isGroup 1 (some .boolean), .methodLink RX5 63 yX5_in, .static yX5_in, .code yX5_in cX5_in 3 (some .boolean), .methodLink RX5 79 yX5_isPerson, .static yX5_isPerson, .code yX5_isPerson cX5_isPerson 1 (some .boolean), .methodLink RX5 82 yX5_isFine, .instanceMethod yX5_isFine, .selects RX5 yX5_isFine yX5_isFine, .code yX5_isFine cX5_isFine 2 (some .boolean), .fieldLink RX5 60 "ShareMoverModel" "thrown" "I", .methodLink RX5 67 yX5_has, .static yX5_has, .code yX5_has cX5_has 2 (some .boolean)] ++ wsX50)
def wsX5_nest : List Cond := .code yX5_nest cX5_nest 4 (some .boolean) :: ([.fieldLink RX5 13 "ShareMoverModel" "inner" "[I", .methodLink RX5 75 yX5_isGroup, .static yX5_isGroup, .initialized RX5, .code yX5_isGroup cX5_isGroup 1 (some .boolean), .methodLink RX5 63 yX5_in, .static yX5_in, .code yX5_in cX5_in 3 (some .boolean), .methodLink RX5 71 yX5_groupsIn, .instanceMethod yX5_groupsIn, .selects RX5 yX5_groupsIn yX5_groupsIn, .code yX5_groupsIn cX5_groupsIn 5 (some .int), .methodLink RX5 67 yX5_has, .static yX5_has, .code yX5_has cX5_has 2 (some .boolean), .methodLink RX5 82 yX5_isFine, .instanceMethod yX5_isFine, .selects RX5 yX5_isFine yX5_isFine, .code yX5_isFine cX5_isFine 2 (some .boolean), .fieldLink RX5 60 "ShareMoverModel" "thrown" "I"] ++ wsX50)
def wsX5_members_r1 : List Cond := [Cond.methodLink RX5 75 yX5_isGroup, Cond.static yX5_isGroup, Cond.initialized RX5, Cond.code yX5_isGroup cX5_isGroup 1 (some .boolean), Cond.methodLink RX5 63 yX5_in, Cond.static yX5_in, Cond.code yX5_in cX5_in 3 (some .boolean), Cond.methodLink RX5 82 yX5_isFine, Cond.instanceMethod yX5_isFine, Cond.selects RX5 yX5_isFine yX5_isFine, Cond.code yX5_isFine cX5_isFine 2 (some .boolean), Cond.fieldLink RX5 60 "ShareMoverModel" "thrown" "I", Cond.methodLink RX5 85 yX5_membersOf, Cond.instanceMethod yX5_membersOf, Cond.selects RX5 yX5_membersOf yX5_membersOf, Cond.code yX5_membersOf cX5_membersOf 5 (some .int), Cond.fieldLink RX5 7 "ShareMoverModel" "persons" "[I", Cond.methodLink RX5 71 yX5_groupsIn, Cond.instanceMethod yX5_groupsIn, Cond.selects RX5 yX5_groupsIn yX5_groupsIn, Cond.code yX5_groupsIn cX5_groupsIn 5 (some .int), Cond.fieldLink RX5 13 "ShareMoverModel" "inner" "[I", Cond.methodLink RX5 67 yX5_has, Cond.static yX5_has]
def wsX5_members_r2 : List Cond := [Cond.code yX5_has cX5_has 2 (some .boolean)]
def wsX5_members : List Cond := .code yX5_members cX5_members 2 (some .int) :: ((wsX5_members_r1 ++ wsX5_members_r2) ++ wsX50)
def wsX5_addFolder : List Cond := .code yX5_addFolder cX5_addFolder 3 (some .int) :: ([.fieldLink RX5 29 "ShareMoverModel" "folders" "I", .fieldLink RX5 16 "ShareMoverModel" "parent" "[I", .fieldLink RX5 19 "ShareMoverModel" "owner" "[I", .fieldLink RX5 22 "ShareMoverModel" "inherits" "[Z", .methodLink RX5 88 yX5_isFolder, .instanceMethod yX5_isFolder, .selects RX5 yX5_isFolder yX5_isFolder, .initialized RX5, .code yX5_isFolder cX5_isFolder 2 (some .boolean), .methodLink RX5 63 yX5_in, .static yX5_in, .code yX5_in cX5_in 3 (some .boolean), .methodLink RX5 79 yX5_isPerson, .static yX5_isPerson, .code yX5_isPerson cX5_isPerson 1 (some .boolean), .methodLink RX5 82 yX5_isFine, .instanceMethod yX5_isFine, .selects RX5 yX5_isFine yX5_isFine, .code yX5_isFine cX5_isFine 2 (some .boolean), .fieldLink RX5 60 "ShareMoverModel" "thrown" "I"] ++ wsX50)
def wsX5_setOwner : List Cond := .code yX5_setOwner cX5_setOwner 4 (some .int) :: ([.fieldLink RX5 19 "ShareMoverModel" "owner" "[I", .methodLink RX5 88 yX5_isFolder, .instanceMethod yX5_isFolder, .selects RX5 yX5_isFolder yX5_isFolder, .initialized RX5, .code yX5_isFolder cX5_isFolder 2 (some .boolean), .fieldLink RX5 29 "ShareMoverModel" "folders" "I", .methodLink RX5 63 yX5_in, .static yX5_in, .code yX5_in cX5_in 3 (some .boolean), .methodLink RX5 79 yX5_isPerson, .static yX5_isPerson, .code yX5_isPerson cX5_isPerson 1 (some .boolean), .methodLink RX5 82 yX5_isFine, .instanceMethod yX5_isFine, .selects RX5 yX5_isFine yX5_isFine, .code yX5_isFine cX5_isFine 2 (some .boolean), .fieldLink RX5 60 "ShareMoverModel" "thrown" "I"] ++ wsX50)
def wsX5_setInherits : List Cond := .code yX5_setInherits cX5_setInherits 4 (some .boolean) :: ([.fieldLink RX5 22 "ShareMoverModel" "inherits" "[Z", .methodLink RX5 88 yX5_isFolder, .instanceMethod yX5_isFolder, .selects RX5 yX5_isFolder yX5_isFolder, .initialized RX5, .code yX5_isFolder cX5_isFolder 2 (some .boolean), .fieldLink RX5 29 "ShareMoverModel" "folders" "I", .methodLink RX5 63 yX5_in, .static yX5_in, .code yX5_in cX5_in 3 (some .boolean), .methodLink RX5 82 yX5_isFine, .instanceMethod yX5_isFine, .selects RX5 yX5_isFine yX5_isFine, .code yX5_isFine cX5_isFine 2 (some .boolean), .fieldLink RX5 60 "ShareMoverModel" "thrown" "I"] ++ wsX50)
def wsX5_allow : List Cond := .code yX5_allow cX5_allow 8 (some .int) :: ([.fieldLink RX5 26 "ShareMoverModel" "entries" "[I", .fieldLink RX5 33 "ShareMoverModel" "who" "[I", .fieldLink RX5 36 "ShareMoverModel" "allows" "[Z", .fieldLink RX5 39 "ShareMoverModel" "given" "[I", .fieldLink RX5 42 "ShareMoverModel" "scope" "[I", .methodLink RX5 88 yX5_isFolder, .instanceMethod yX5_isFolder, .selects RX5 yX5_isFolder yX5_isFolder, .initialized RX5, .code yX5_isFolder cX5_isFolder 2 (some .boolean), .fieldLink RX5 29 "ShareMoverModel" "folders" "I", .methodLink RX5 63 yX5_in, .static yX5_in, .code yX5_in cX5_in 3 (some .boolean), .methodLink RX5 82 yX5_isFine, .instanceMethod yX5_isFine, .selects RX5 yX5_isFine yX5_isFine, .code yX5_isFine cX5_isFine 2 (some .boolean), .fieldLink RX5 60 "ShareMoverModel" "thrown" "I"] ++ wsX50)
def wsX5_drop : List Cond := .code yX5_drop cX5_drop 5 (some .int) :: ([.fieldLink RX5 26 "ShareMoverModel" "entries" "[I", .fieldLink RX5 39 "ShareMoverModel" "given" "[I", .fieldLink RX5 33 "ShareMoverModel" "who" "[I", .fieldLink RX5 36 "ShareMoverModel" "allows" "[Z", .fieldLink RX5 42 "ShareMoverModel" "scope" "[I", .methodLink RX5 88 yX5_isFolder, .instanceMethod yX5_isFolder, .selects RX5 yX5_isFolder yX5_isFolder, .initialized RX5, .code yX5_isFolder cX5_isFolder 2 (some .boolean), .fieldLink RX5 29 "ShareMoverModel" "folders" "I", .methodLink RX5 63 yX5_in, .static yX5_in, .code yX5_in cX5_in 3 (some .boolean), .methodLink RX5 82 yX5_isFine, .instanceMethod yX5_isFine, .selects RX5 yX5_isFine yX5_isFine, .code yX5_isFine cX5_isFine 2 (some .boolean), .fieldLink RX5 60 "ShareMoverModel" "thrown" "I"] ++ wsX50)
def wsX5_folders : List Cond := .code yX5_folders cX5_folders 1 (some .int) :: ([.fieldLink RX5 60 "ShareMoverModel" "thrown" "I", .fieldLink RX5 29 "ShareMoverModel" "folders" "I"] ++ wsX50)
def wsX5_isFor : List Cond := .code yX5_isFor cX5_isFor 3 (some .boolean) :: ([.fieldLink RX5 33 "ShareMoverModel" "who" "[I", .methodLink RX5 85 yX5_membersOf, .instanceMethod yX5_membersOf, .selects RX5 yX5_membersOf yX5_membersOf, .initialized RX5, .code yX5_membersOf cX5_membersOf 5 (some .int), .fieldLink RX5 7 "ShareMoverModel" "persons" "[I", .methodLink RX5 71 yX5_groupsIn, .instanceMethod yX5_groupsIn, .selects RX5 yX5_groupsIn yX5_groupsIn, .code yX5_groupsIn cX5_groupsIn 5 (some .int), .fieldLink RX5 13 "ShareMoverModel" "inner" "[I", .methodLink RX5 67 yX5_has, .static yX5_has, .code yX5_has cX5_has 2 (some .boolean)] ++ wsX50)
def wsX5_rightsOf_r1 : List Cond := [Cond.fieldLink RX5 19 "ShareMoverModel" "owner" "[I", Cond.fieldLink RX5 26 "ShareMoverModel" "entries" "[I", Cond.fieldLink RX5 42 "ShareMoverModel" "scope" "[I", Cond.fieldLink RX5 36 "ShareMoverModel" "allows" "[Z", Cond.fieldLink RX5 39 "ShareMoverModel" "given" "[I", Cond.fieldLink RX5 22 "ShareMoverModel" "inherits" "[Z", Cond.fieldLink RX5 16 "ShareMoverModel" "parent" "[I", Cond.methodLink RX5 91 yX5_isFor, Cond.instanceMethod yX5_isFor, Cond.selects RX5 yX5_isFor yX5_isFor, Cond.initialized RX5, Cond.code yX5_isFor cX5_isFor 3 (some .boolean), Cond.fieldLink RX5 33 "ShareMoverModel" "who" "[I", Cond.methodLink RX5 85 yX5_membersOf, Cond.instanceMethod yX5_membersOf, Cond.selects RX5 yX5_membersOf yX5_membersOf, Cond.code yX5_membersOf cX5_membersOf 5 (some .int), Cond.fieldLink RX5 7 "ShareMoverModel" "persons" "[I", Cond.methodLink RX5 71 yX5_groupsIn, Cond.instanceMethod yX5_groupsIn, Cond.selects RX5 yX5_groupsIn yX5_groupsIn, Cond.code yX5_groupsIn cX5_groupsIn 5 (some .int), Cond.fieldLink RX5 13 "ShareMoverModel" "inner" "[I", Cond.methodLink RX5 67 yX5_has]
def wsX5_rightsOf_r2 : List Cond := [Cond.static yX5_has, Cond.code yX5_has cX5_has 2 (some .boolean)]
def wsX5_rightsOf : List Cond := .code yX5_rightsOf cX5_rightsOf 9 (some .int) :: ((wsX5_rightsOf_r1 ++ wsX5_rightsOf_r2) ++ wsX50)
def wsX5_rights_r1 : List Cond := [Cond.methodLink RX5 79 yX5_isPerson, Cond.static yX5_isPerson, Cond.initialized RX5, Cond.code yX5_isPerson cX5_isPerson 1 (some .boolean), Cond.methodLink RX5 63 yX5_in, Cond.static yX5_in, Cond.code yX5_in cX5_in 3 (some .boolean), Cond.methodLink RX5 88 yX5_isFolder, Cond.instanceMethod yX5_isFolder, Cond.selects RX5 yX5_isFolder yX5_isFolder, Cond.code yX5_isFolder cX5_isFolder 2 (some .boolean), Cond.fieldLink RX5 29 "ShareMoverModel" "folders" "I", Cond.methodLink RX5 82 yX5_isFine, Cond.instanceMethod yX5_isFine, Cond.selects RX5 yX5_isFine yX5_isFine, Cond.code yX5_isFine cX5_isFine 2 (some .boolean), Cond.fieldLink RX5 60 "ShareMoverModel" "thrown" "I", Cond.methodLink RX5 94 yX5_rightsOf, Cond.instanceMethod yX5_rightsOf, Cond.selects RX5 yX5_rightsOf yX5_rightsOf, Cond.code yX5_rightsOf cX5_rightsOf 9 (some .int), Cond.fieldLink RX5 19 "ShareMoverModel" "owner" "[I", Cond.fieldLink RX5 26 "ShareMoverModel" "entries" "[I", Cond.fieldLink RX5 42 "ShareMoverModel" "scope" "[I"]
def wsX5_rights_r2 : List Cond := [Cond.fieldLink RX5 36 "ShareMoverModel" "allows" "[Z", Cond.fieldLink RX5 39 "ShareMoverModel" "given" "[I", Cond.fieldLink RX5 22 "ShareMoverModel" "inherits" "[Z", Cond.fieldLink RX5 16 "ShareMoverModel" "parent" "[I", Cond.methodLink RX5 91 yX5_isFor, Cond.instanceMethod yX5_isFor, Cond.selects RX5 yX5_isFor yX5_isFor, Cond.code yX5_isFor cX5_isFor 3 (some .boolean), Cond.fieldLink RX5 33 "ShareMoverModel" "who" "[I", Cond.methodLink RX5 85 yX5_membersOf, Cond.instanceMethod yX5_membersOf, Cond.selects RX5 yX5_membersOf yX5_membersOf, Cond.code yX5_membersOf cX5_membersOf 5 (some .int), Cond.fieldLink RX5 7 "ShareMoverModel" "persons" "[I", Cond.methodLink RX5 71 yX5_groupsIn, Cond.instanceMethod yX5_groupsIn, Cond.selects RX5 yX5_groupsIn yX5_groupsIn, Cond.code yX5_groupsIn cX5_groupsIn 5 (some .int), Cond.fieldLink RX5 13 "ShareMoverModel" "inner" "[I", Cond.methodLink RX5 67 yX5_has, Cond.static yX5_has, Cond.code yX5_has cX5_has 2 (some .boolean)]
def wsX5_rights : List Cond := .code yX5_rights cX5_rights 3 (some .int) :: ((wsX5_rights_r1 ++ wsX5_rights_r2) ++ wsX50)
def wsX5_rightsBackwards_r1 : List Cond := [Cond.methodLink RX5 98 yX5_rights, Cond.instanceMethod yX5_rights, Cond.selects RX5 yX5_rights yX5_rights, Cond.initialized RX5, Cond.code yX5_rights cX5_rights 3 (some .int), Cond.methodLink RX5 79 yX5_isPerson, Cond.static yX5_isPerson, Cond.code yX5_isPerson cX5_isPerson 1 (some .boolean), Cond.methodLink RX5 63 yX5_in, Cond.static yX5_in, Cond.code yX5_in cX5_in 3 (some .boolean), Cond.methodLink RX5 88 yX5_isFolder, Cond.instanceMethod yX5_isFolder, Cond.selects RX5 yX5_isFolder yX5_isFolder, Cond.code yX5_isFolder cX5_isFolder 2 (some .boolean), Cond.fieldLink RX5 29 "ShareMoverModel" "folders" "I", Cond.methodLink RX5 82 yX5_isFine, Cond.instanceMethod yX5_isFine, Cond.selects RX5 yX5_isFine yX5_isFine, Cond.code yX5_isFine cX5_isFine 2 (some .boolean), Cond.fieldLink RX5 60 "ShareMoverModel" "thrown" "I", Cond.methodLink RX5 94 yX5_rightsOf, Cond.instanceMethod yX5_rightsOf, Cond.selects RX5 yX5_rightsOf yX5_rightsOf]
def wsX5_rightsBackwards_r2 : List Cond := [Cond.code yX5_rightsOf cX5_rightsOf 9 (some .int), Cond.fieldLink RX5 19 "ShareMoverModel" "owner" "[I", Cond.fieldLink RX5 26 "ShareMoverModel" "entries" "[I", Cond.fieldLink RX5 42 "ShareMoverModel" "scope" "[I", Cond.fieldLink RX5 36 "ShareMoverModel" "allows" "[Z", Cond.fieldLink RX5 39 "ShareMoverModel" "given" "[I", Cond.fieldLink RX5 22 "ShareMoverModel" "inherits" "[Z", Cond.fieldLink RX5 16 "ShareMoverModel" "parent" "[I", Cond.methodLink RX5 91 yX5_isFor, Cond.instanceMethod yX5_isFor, Cond.selects RX5 yX5_isFor yX5_isFor, Cond.code yX5_isFor cX5_isFor 3 (some .boolean), Cond.fieldLink RX5 33 "ShareMoverModel" "who" "[I", Cond.methodLink RX5 85 yX5_membersOf, Cond.instanceMethod yX5_membersOf, Cond.selects RX5 yX5_membersOf yX5_membersOf, Cond.code yX5_membersOf cX5_membersOf 5 (some .int), Cond.fieldLink RX5 7 "ShareMoverModel" "persons" "[I", Cond.methodLink RX5 71 yX5_groupsIn, Cond.instanceMethod yX5_groupsIn, Cond.selects RX5 yX5_groupsIn yX5_groupsIn, Cond.code yX5_groupsIn cX5_groupsIn 5 (some .int), Cond.fieldLink RX5 13 "ShareMoverModel" "inner" "[I", Cond.methodLink RX5 67 yX5_has]
def wsX5_rightsBackwards_r3 : List Cond := [Cond.static yX5_has, Cond.code yX5_has cX5_has 2 (some .boolean)]
def wsX5_rightsBackwards : List Cond := .code yX5_rightsBackwards cX5_rightsBackwards 3 (some .int) :: ((wsX5_rightsBackwards_r1 ++ (wsX5_rightsBackwards_r2 ++ wsX5_rightsBackwards_r3)) ++ wsX50)
def wsX5_common : List Cond := .code yX5_common cX5_common 4 (some .int) :: ([.fieldLink RX5 45 "ShareMoverModel" "own" "[I", .methodLink RX5 67 yX5_has, .static yX5_has, .initialized RX5, .code yX5_has cX5_has 2 (some .boolean)] ++ wsX50)
def wsX5_fits_r1 : List Cond := [Cond.fieldLink RX5 101 "ShareMoverModel" "named" "I", Cond.fieldLink RX5 19 "ShareMoverModel" "owner" "[I", Cond.fieldLink RX5 107 "ShareMoverModel" "groupBits" "I", Cond.fieldLink RX5 110 "ShareMoverModel" "otherBits" "I", Cond.fieldLink RX5 48 "ShareMoverModel" "mapped" "[I", Cond.fieldLink RX5 45 "ShareMoverModel" "own" "[I", Cond.methodLink RX5 85 yX5_membersOf, Cond.instanceMethod yX5_membersOf, Cond.selects RX5 yX5_membersOf yX5_membersOf, Cond.initialized RX5, Cond.code yX5_membersOf cX5_membersOf 5 (some .int), Cond.fieldLink RX5 7 "ShareMoverModel" "persons" "[I", Cond.methodLink RX5 71 yX5_groupsIn, Cond.instanceMethod yX5_groupsIn, Cond.selects RX5 yX5_groupsIn yX5_groupsIn, Cond.code yX5_groupsIn cX5_groupsIn 5 (some .int), Cond.fieldLink RX5 13 "ShareMoverModel" "inner" "[I", Cond.methodLink RX5 67 yX5_has, Cond.static yX5_has, Cond.code yX5_has cX5_has 2 (some .boolean), Cond.methodLink RX5 104 yX5_common, Cond.instanceMethod yX5_common, Cond.selects RX5 yX5_common yX5_common, Cond.code yX5_common cX5_common 4 (some .int)]
def wsX5_fits_r2 : List Cond := [Cond.methodLink RX5 113 yX5_size, Cond.static yX5_size, Cond.code yX5_size cX5_size 3 (some .int)]
def wsX5_fits : List Cond := .code yX5_fits cX5_fits 7 (some .int) :: ((wsX5_fits_r1 ++ wsX5_fits_r2) ++ wsX50)
def wsX5_maps_r1 : List Cond := [Cond.fieldLink RX5 45 "ShareMoverModel" "own" "[I", Cond.fieldLink RX5 101 "ShareMoverModel" "named" "I", Cond.fieldLink RX5 48 "ShareMoverModel" "mapped" "[I", Cond.methodLink RX5 94 yX5_rightsOf, Cond.instanceMethod yX5_rightsOf, Cond.selects RX5 yX5_rightsOf yX5_rightsOf, Cond.initialized RX5, Cond.code yX5_rightsOf cX5_rightsOf 9 (some .int), Cond.fieldLink RX5 19 "ShareMoverModel" "owner" "[I", Cond.fieldLink RX5 26 "ShareMoverModel" "entries" "[I", Cond.fieldLink RX5 42 "ShareMoverModel" "scope" "[I", Cond.fieldLink RX5 36 "ShareMoverModel" "allows" "[Z", Cond.fieldLink RX5 39 "ShareMoverModel" "given" "[I", Cond.fieldLink RX5 22 "ShareMoverModel" "inherits" "[Z", Cond.fieldLink RX5 16 "ShareMoverModel" "parent" "[I", Cond.methodLink RX5 91 yX5_isFor, Cond.instanceMethod yX5_isFor, Cond.selects RX5 yX5_isFor yX5_isFor, Cond.code yX5_isFor cX5_isFor 3 (some .boolean), Cond.fieldLink RX5 33 "ShareMoverModel" "who" "[I", Cond.methodLink RX5 85 yX5_membersOf, Cond.instanceMethod yX5_membersOf, Cond.selects RX5 yX5_membersOf yX5_membersOf, Cond.code yX5_membersOf cX5_membersOf 5 (some .int)]
def wsX5_maps_r2 : List Cond := [Cond.fieldLink RX5 7 "ShareMoverModel" "persons" "[I", Cond.methodLink RX5 71 yX5_groupsIn, Cond.instanceMethod yX5_groupsIn, Cond.selects RX5 yX5_groupsIn yX5_groupsIn, Cond.code yX5_groupsIn cX5_groupsIn 5 (some .int), Cond.fieldLink RX5 13 "ShareMoverModel" "inner" "[I", Cond.methodLink RX5 67 yX5_has, Cond.static yX5_has, Cond.code yX5_has cX5_has 2 (some .boolean), Cond.methodLink RX5 116 yX5_fits, Cond.instanceMethod yX5_fits, Cond.selects RX5 yX5_fits yX5_fits, Cond.code yX5_fits cX5_fits 7 (some .int), Cond.fieldLink RX5 107 "ShareMoverModel" "groupBits" "I", Cond.fieldLink RX5 110 "ShareMoverModel" "otherBits" "I", Cond.methodLink RX5 104 yX5_common, Cond.instanceMethod yX5_common, Cond.selects RX5 yX5_common yX5_common, Cond.code yX5_common cX5_common 4 (some .int), Cond.methodLink RX5 113 yX5_size, Cond.static yX5_size, Cond.code yX5_size cX5_size 3 (some .int)]
def wsX5_maps : List Cond := .code yX5_maps cX5_maps 7 (some .int) :: ((wsX5_maps_r1 ++ wsX5_maps_r2) ++ wsX50)
def wsX5_mapsBest_r1 : List Cond := [Cond.methodLink RX5 119 yX5_maps, Cond.instanceMethod yX5_maps, Cond.selects RX5 yX5_maps yX5_maps, Cond.initialized RX5, Cond.code yX5_maps cX5_maps 7 (some .int), Cond.fieldLink RX5 45 "ShareMoverModel" "own" "[I", Cond.fieldLink RX5 101 "ShareMoverModel" "named" "I", Cond.fieldLink RX5 48 "ShareMoverModel" "mapped" "[I", Cond.methodLink RX5 94 yX5_rightsOf, Cond.instanceMethod yX5_rightsOf, Cond.selects RX5 yX5_rightsOf yX5_rightsOf, Cond.code yX5_rightsOf cX5_rightsOf 9 (some .int), Cond.fieldLink RX5 19 "ShareMoverModel" "owner" "[I", Cond.fieldLink RX5 26 "ShareMoverModel" "entries" "[I", Cond.fieldLink RX5 42 "ShareMoverModel" "scope" "[I", Cond.fieldLink RX5 36 "ShareMoverModel" "allows" "[Z", Cond.fieldLink RX5 39 "ShareMoverModel" "given" "[I", Cond.fieldLink RX5 22 "ShareMoverModel" "inherits" "[Z", Cond.fieldLink RX5 16 "ShareMoverModel" "parent" "[I", Cond.methodLink RX5 91 yX5_isFor, Cond.instanceMethod yX5_isFor, Cond.selects RX5 yX5_isFor yX5_isFor, Cond.code yX5_isFor cX5_isFor 3 (some .boolean), Cond.fieldLink RX5 33 "ShareMoverModel" "who" "[I"]
def wsX5_mapsBest_r2 : List Cond := [Cond.methodLink RX5 85 yX5_membersOf, Cond.instanceMethod yX5_membersOf, Cond.selects RX5 yX5_membersOf yX5_membersOf, Cond.code yX5_membersOf cX5_membersOf 5 (some .int), Cond.fieldLink RX5 7 "ShareMoverModel" "persons" "[I", Cond.methodLink RX5 71 yX5_groupsIn, Cond.instanceMethod yX5_groupsIn, Cond.selects RX5 yX5_groupsIn yX5_groupsIn, Cond.code yX5_groupsIn cX5_groupsIn 5 (some .int), Cond.fieldLink RX5 13 "ShareMoverModel" "inner" "[I", Cond.methodLink RX5 67 yX5_has, Cond.static yX5_has, Cond.code yX5_has cX5_has 2 (some .boolean), Cond.methodLink RX5 116 yX5_fits, Cond.instanceMethod yX5_fits, Cond.selects RX5 yX5_fits yX5_fits, Cond.code yX5_fits cX5_fits 7 (some .int), Cond.fieldLink RX5 107 "ShareMoverModel" "groupBits" "I", Cond.fieldLink RX5 110 "ShareMoverModel" "otherBits" "I", Cond.methodLink RX5 104 yX5_common, Cond.instanceMethod yX5_common, Cond.selects RX5 yX5_common yX5_common, Cond.code yX5_common cX5_common 4 (some .int), Cond.methodLink RX5 113 yX5_size]
def wsX5_mapsBest_r3 : List Cond := [Cond.static yX5_size, Cond.code yX5_size cX5_size 3 (some .int)]
def wsX5_mapsBest : List Cond := .code yX5_mapsBest cX5_mapsBest 6 (some .int) :: ((wsX5_mapsBest_r1 ++ (wsX5_mapsBest_r2 ++ wsX5_mapsBest_r3)) ++ wsX50)
def wsX5_groupOf_r1 : List Cond := [Cond.methodLink RX5 88 yX5_isFolder, Cond.instanceMethod yX5_isFolder, Cond.selects RX5 yX5_isFolder yX5_isFolder, Cond.initialized RX5, Cond.code yX5_isFolder cX5_isFolder 2 (some .boolean), Cond.fieldLink RX5 29 "ShareMoverModel" "folders" "I", Cond.methodLink RX5 63 yX5_in, Cond.static yX5_in, Cond.code yX5_in cX5_in 3 (some .boolean), Cond.methodLink RX5 82 yX5_isFine, Cond.instanceMethod yX5_isFine, Cond.selects RX5 yX5_isFine yX5_isFine, Cond.code yX5_isFine cX5_isFine 2 (some .boolean), Cond.fieldLink RX5 60 "ShareMoverModel" "thrown" "I", Cond.methodLink RX5 122 yX5_mapsBest, Cond.instanceMethod yX5_mapsBest, Cond.selects RX5 yX5_mapsBest yX5_mapsBest, Cond.code yX5_mapsBest cX5_mapsBest 6 (some .int), Cond.methodLink RX5 119 yX5_maps, Cond.instanceMethod yX5_maps, Cond.selects RX5 yX5_maps yX5_maps, Cond.code yX5_maps cX5_maps 7 (some .int), Cond.fieldLink RX5 45 "ShareMoverModel" "own" "[I", Cond.fieldLink RX5 101 "ShareMoverModel" "named" "I"]
def wsX5_groupOf_r2 : List Cond := [Cond.fieldLink RX5 48 "ShareMoverModel" "mapped" "[I", Cond.methodLink RX5 94 yX5_rightsOf, Cond.instanceMethod yX5_rightsOf, Cond.selects RX5 yX5_rightsOf yX5_rightsOf, Cond.code yX5_rightsOf cX5_rightsOf 9 (some .int), Cond.fieldLink RX5 19 "ShareMoverModel" "owner" "[I", Cond.fieldLink RX5 26 "ShareMoverModel" "entries" "[I", Cond.fieldLink RX5 42 "ShareMoverModel" "scope" "[I", Cond.fieldLink RX5 36 "ShareMoverModel" "allows" "[Z", Cond.fieldLink RX5 39 "ShareMoverModel" "given" "[I", Cond.fieldLink RX5 22 "ShareMoverModel" "inherits" "[Z", Cond.fieldLink RX5 16 "ShareMoverModel" "parent" "[I", Cond.methodLink RX5 91 yX5_isFor, Cond.instanceMethod yX5_isFor, Cond.selects RX5 yX5_isFor yX5_isFor, Cond.code yX5_isFor cX5_isFor 3 (some .boolean), Cond.fieldLink RX5 33 "ShareMoverModel" "who" "[I", Cond.methodLink RX5 85 yX5_membersOf, Cond.instanceMethod yX5_membersOf, Cond.selects RX5 yX5_membersOf yX5_membersOf, Cond.code yX5_membersOf cX5_membersOf 5 (some .int), Cond.fieldLink RX5 7 "ShareMoverModel" "persons" "[I", Cond.methodLink RX5 71 yX5_groupsIn, Cond.instanceMethod yX5_groupsIn]
def wsX5_groupOf_r3 : List Cond := [Cond.selects RX5 yX5_groupsIn yX5_groupsIn, Cond.code yX5_groupsIn cX5_groupsIn 5 (some .int), Cond.fieldLink RX5 13 "ShareMoverModel" "inner" "[I", Cond.methodLink RX5 67 yX5_has, Cond.static yX5_has, Cond.code yX5_has cX5_has 2 (some .boolean), Cond.methodLink RX5 116 yX5_fits, Cond.instanceMethod yX5_fits, Cond.selects RX5 yX5_fits yX5_fits, Cond.code yX5_fits cX5_fits 7 (some .int), Cond.fieldLink RX5 107 "ShareMoverModel" "groupBits" "I", Cond.fieldLink RX5 110 "ShareMoverModel" "otherBits" "I", Cond.methodLink RX5 104 yX5_common, Cond.instanceMethod yX5_common, Cond.selects RX5 yX5_common yX5_common, Cond.code yX5_common cX5_common 4 (some .int), Cond.methodLink RX5 113 yX5_size, Cond.static yX5_size, Cond.code yX5_size cX5_size 3 (some .int)]
def wsX5_groupOf : List Cond := .code yX5_groupOf cX5_groupOf 2 (some .int) :: ((wsX5_groupOf_r1 ++ (wsX5_groupOf_r2 ++ wsX5_groupOf_r3)) ++ wsX50)
def wsX5_bits_r1 : List Cond := [Cond.fieldLink RX5 107 "ShareMoverModel" "groupBits" "I", Cond.fieldLink RX5 110 "ShareMoverModel" "otherBits" "I", Cond.methodLink RX5 88 yX5_isFolder, Cond.instanceMethod yX5_isFolder, Cond.selects RX5 yX5_isFolder yX5_isFolder, Cond.initialized RX5, Cond.code yX5_isFolder cX5_isFolder 2 (some .boolean), Cond.fieldLink RX5 29 "ShareMoverModel" "folders" "I", Cond.methodLink RX5 63 yX5_in, Cond.static yX5_in, Cond.code yX5_in cX5_in 3 (some .boolean), Cond.methodLink RX5 82 yX5_isFine, Cond.instanceMethod yX5_isFine, Cond.selects RX5 yX5_isFine yX5_isFine, Cond.code yX5_isFine cX5_isFine 2 (some .boolean), Cond.fieldLink RX5 60 "ShareMoverModel" "thrown" "I", Cond.methodLink RX5 122 yX5_mapsBest, Cond.instanceMethod yX5_mapsBest, Cond.selects RX5 yX5_mapsBest yX5_mapsBest, Cond.code yX5_mapsBest cX5_mapsBest 6 (some .int), Cond.methodLink RX5 119 yX5_maps, Cond.instanceMethod yX5_maps, Cond.selects RX5 yX5_maps yX5_maps, Cond.code yX5_maps cX5_maps 7 (some .int)]
def wsX5_bits_r2 : List Cond := [Cond.fieldLink RX5 45 "ShareMoverModel" "own" "[I", Cond.fieldLink RX5 101 "ShareMoverModel" "named" "I", Cond.fieldLink RX5 48 "ShareMoverModel" "mapped" "[I", Cond.methodLink RX5 94 yX5_rightsOf, Cond.instanceMethod yX5_rightsOf, Cond.selects RX5 yX5_rightsOf yX5_rightsOf, Cond.code yX5_rightsOf cX5_rightsOf 9 (some .int), Cond.fieldLink RX5 19 "ShareMoverModel" "owner" "[I", Cond.fieldLink RX5 26 "ShareMoverModel" "entries" "[I", Cond.fieldLink RX5 42 "ShareMoverModel" "scope" "[I", Cond.fieldLink RX5 36 "ShareMoverModel" "allows" "[Z", Cond.fieldLink RX5 39 "ShareMoverModel" "given" "[I", Cond.fieldLink RX5 22 "ShareMoverModel" "inherits" "[Z", Cond.fieldLink RX5 16 "ShareMoverModel" "parent" "[I", Cond.methodLink RX5 91 yX5_isFor, Cond.instanceMethod yX5_isFor, Cond.selects RX5 yX5_isFor yX5_isFor, Cond.code yX5_isFor cX5_isFor 3 (some .boolean), Cond.fieldLink RX5 33 "ShareMoverModel" "who" "[I", Cond.methodLink RX5 85 yX5_membersOf, Cond.instanceMethod yX5_membersOf, Cond.selects RX5 yX5_membersOf yX5_membersOf, Cond.code yX5_membersOf cX5_membersOf 5 (some .int), Cond.fieldLink RX5 7 "ShareMoverModel" "persons" "[I"]
def wsX5_bits_r3 : List Cond := [Cond.methodLink RX5 71 yX5_groupsIn, Cond.instanceMethod yX5_groupsIn, Cond.selects RX5 yX5_groupsIn yX5_groupsIn, Cond.code yX5_groupsIn cX5_groupsIn 5 (some .int), Cond.fieldLink RX5 13 "ShareMoverModel" "inner" "[I", Cond.methodLink RX5 67 yX5_has, Cond.static yX5_has, Cond.code yX5_has cX5_has 2 (some .boolean), Cond.methodLink RX5 116 yX5_fits, Cond.instanceMethod yX5_fits, Cond.selects RX5 yX5_fits yX5_fits, Cond.code yX5_fits cX5_fits 7 (some .int), Cond.methodLink RX5 104 yX5_common, Cond.instanceMethod yX5_common, Cond.selects RX5 yX5_common yX5_common, Cond.code yX5_common cX5_common 4 (some .int), Cond.methodLink RX5 113 yX5_size, Cond.static yX5_size, Cond.code yX5_size cX5_size 3 (some .int)]
def wsX5_bits : List Cond := .code yX5_bits cX5_bits 2 (some .int) :: ((wsX5_bits_r1 ++ (wsX5_bits_r2 ++ wsX5_bits_r3)) ++ wsX50)
def wsX5_named_r1 : List Cond := [Cond.fieldLink RX5 101 "ShareMoverModel" "named" "I", Cond.methodLink RX5 88 yX5_isFolder, Cond.instanceMethod yX5_isFolder, Cond.selects RX5 yX5_isFolder yX5_isFolder, Cond.initialized RX5, Cond.code yX5_isFolder cX5_isFolder 2 (some .boolean), Cond.fieldLink RX5 29 "ShareMoverModel" "folders" "I", Cond.methodLink RX5 63 yX5_in, Cond.static yX5_in, Cond.code yX5_in cX5_in 3 (some .boolean), Cond.methodLink RX5 82 yX5_isFine, Cond.instanceMethod yX5_isFine, Cond.selects RX5 yX5_isFine yX5_isFine, Cond.code yX5_isFine cX5_isFine 2 (some .boolean), Cond.fieldLink RX5 60 "ShareMoverModel" "thrown" "I", Cond.methodLink RX5 122 yX5_mapsBest, Cond.instanceMethod yX5_mapsBest, Cond.selects RX5 yX5_mapsBest yX5_mapsBest, Cond.code yX5_mapsBest cX5_mapsBest 6 (some .int), Cond.methodLink RX5 119 yX5_maps, Cond.instanceMethod yX5_maps, Cond.selects RX5 yX5_maps yX5_maps, Cond.code yX5_maps cX5_maps 7 (some .int), Cond.fieldLink RX5 45 "ShareMoverModel" "own" "[I"]
def wsX5_named_r2 : List Cond := [Cond.fieldLink RX5 48 "ShareMoverModel" "mapped" "[I", Cond.methodLink RX5 94 yX5_rightsOf, Cond.instanceMethod yX5_rightsOf, Cond.selects RX5 yX5_rightsOf yX5_rightsOf, Cond.code yX5_rightsOf cX5_rightsOf 9 (some .int), Cond.fieldLink RX5 19 "ShareMoverModel" "owner" "[I", Cond.fieldLink RX5 26 "ShareMoverModel" "entries" "[I", Cond.fieldLink RX5 42 "ShareMoverModel" "scope" "[I", Cond.fieldLink RX5 36 "ShareMoverModel" "allows" "[Z", Cond.fieldLink RX5 39 "ShareMoverModel" "given" "[I", Cond.fieldLink RX5 22 "ShareMoverModel" "inherits" "[Z", Cond.fieldLink RX5 16 "ShareMoverModel" "parent" "[I", Cond.methodLink RX5 91 yX5_isFor, Cond.instanceMethod yX5_isFor, Cond.selects RX5 yX5_isFor yX5_isFor, Cond.code yX5_isFor cX5_isFor 3 (some .boolean), Cond.fieldLink RX5 33 "ShareMoverModel" "who" "[I", Cond.methodLink RX5 85 yX5_membersOf, Cond.instanceMethod yX5_membersOf, Cond.selects RX5 yX5_membersOf yX5_membersOf, Cond.code yX5_membersOf cX5_membersOf 5 (some .int), Cond.fieldLink RX5 7 "ShareMoverModel" "persons" "[I", Cond.methodLink RX5 71 yX5_groupsIn, Cond.instanceMethod yX5_groupsIn]
def wsX5_named_r3 : List Cond := [Cond.selects RX5 yX5_groupsIn yX5_groupsIn, Cond.code yX5_groupsIn cX5_groupsIn 5 (some .int), Cond.fieldLink RX5 13 "ShareMoverModel" "inner" "[I", Cond.methodLink RX5 67 yX5_has, Cond.static yX5_has, Cond.code yX5_has cX5_has 2 (some .boolean), Cond.methodLink RX5 116 yX5_fits, Cond.instanceMethod yX5_fits, Cond.selects RX5 yX5_fits yX5_fits, Cond.code yX5_fits cX5_fits 7 (some .int), Cond.fieldLink RX5 107 "ShareMoverModel" "groupBits" "I", Cond.fieldLink RX5 110 "ShareMoverModel" "otherBits" "I", Cond.methodLink RX5 104 yX5_common, Cond.instanceMethod yX5_common, Cond.selects RX5 yX5_common yX5_common, Cond.code yX5_common cX5_common 4 (some .int), Cond.methodLink RX5 113 yX5_size, Cond.static yX5_size, Cond.code yX5_size cX5_size 3 (some .int)]
def wsX5_named : List Cond := .code yX5_named cX5_named 2 (some .int) :: ((wsX5_named_r1 ++ (wsX5_named_r2 ++ wsX5_named_r3)) ++ wsX50)
def wsX5_mapped_r1 : List Cond := [Cond.fieldLink RX5 48 "ShareMoverModel" "mapped" "[I", Cond.methodLink RX5 79 yX5_isPerson, Cond.static yX5_isPerson, Cond.initialized RX5, Cond.code yX5_isPerson cX5_isPerson 1 (some .boolean), Cond.methodLink RX5 63 yX5_in, Cond.static yX5_in, Cond.code yX5_in cX5_in 3 (some .boolean), Cond.methodLink RX5 88 yX5_isFolder, Cond.instanceMethod yX5_isFolder, Cond.selects RX5 yX5_isFolder yX5_isFolder, Cond.code yX5_isFolder cX5_isFolder 2 (some .boolean), Cond.fieldLink RX5 29 "ShareMoverModel" "folders" "I", Cond.methodLink RX5 82 yX5_isFine, Cond.instanceMethod yX5_isFine, Cond.selects RX5 yX5_isFine yX5_isFine, Cond.code yX5_isFine cX5_isFine 2 (some .boolean), Cond.fieldLink RX5 60 "ShareMoverModel" "thrown" "I", Cond.methodLink RX5 122 yX5_mapsBest, Cond.instanceMethod yX5_mapsBest, Cond.selects RX5 yX5_mapsBest yX5_mapsBest, Cond.code yX5_mapsBest cX5_mapsBest 6 (some .int), Cond.methodLink RX5 119 yX5_maps, Cond.instanceMethod yX5_maps]
def wsX5_mapped_r2 : List Cond := [Cond.selects RX5 yX5_maps yX5_maps, Cond.code yX5_maps cX5_maps 7 (some .int), Cond.fieldLink RX5 45 "ShareMoverModel" "own" "[I", Cond.fieldLink RX5 101 "ShareMoverModel" "named" "I", Cond.methodLink RX5 94 yX5_rightsOf, Cond.instanceMethod yX5_rightsOf, Cond.selects RX5 yX5_rightsOf yX5_rightsOf, Cond.code yX5_rightsOf cX5_rightsOf 9 (some .int), Cond.fieldLink RX5 19 "ShareMoverModel" "owner" "[I", Cond.fieldLink RX5 26 "ShareMoverModel" "entries" "[I", Cond.fieldLink RX5 42 "ShareMoverModel" "scope" "[I", Cond.fieldLink RX5 36 "ShareMoverModel" "allows" "[Z", Cond.fieldLink RX5 39 "ShareMoverModel" "given" "[I", Cond.fieldLink RX5 22 "ShareMoverModel" "inherits" "[Z", Cond.fieldLink RX5 16 "ShareMoverModel" "parent" "[I", Cond.methodLink RX5 91 yX5_isFor, Cond.instanceMethod yX5_isFor, Cond.selects RX5 yX5_isFor yX5_isFor, Cond.code yX5_isFor cX5_isFor 3 (some .boolean), Cond.fieldLink RX5 33 "ShareMoverModel" "who" "[I", Cond.methodLink RX5 85 yX5_membersOf, Cond.instanceMethod yX5_membersOf, Cond.selects RX5 yX5_membersOf yX5_membersOf, Cond.code yX5_membersOf cX5_membersOf 5 (some .int)]
def wsX5_mapped_r3 : List Cond := [Cond.fieldLink RX5 7 "ShareMoverModel" "persons" "[I", Cond.methodLink RX5 71 yX5_groupsIn, Cond.instanceMethod yX5_groupsIn, Cond.selects RX5 yX5_groupsIn yX5_groupsIn, Cond.code yX5_groupsIn cX5_groupsIn 5 (some .int), Cond.fieldLink RX5 13 "ShareMoverModel" "inner" "[I", Cond.methodLink RX5 67 yX5_has, Cond.static yX5_has, Cond.code yX5_has cX5_has 2 (some .boolean), Cond.methodLink RX5 116 yX5_fits, Cond.instanceMethod yX5_fits, Cond.selects RX5 yX5_fits yX5_fits, Cond.code yX5_fits cX5_fits 7 (some .int), Cond.fieldLink RX5 107 "ShareMoverModel" "groupBits" "I", Cond.fieldLink RX5 110 "ShareMoverModel" "otherBits" "I", Cond.methodLink RX5 104 yX5_common, Cond.instanceMethod yX5_common, Cond.selects RX5 yX5_common yX5_common, Cond.code yX5_common cX5_common 4 (some .int), Cond.methodLink RX5 113 yX5_size, Cond.static yX5_size, Cond.code yX5_size cX5_size 3 (some .int)]
def wsX5_mapped : List Cond := .code yX5_mapped cX5_mapped 3 (some .int) :: ((wsX5_mapped_r1 ++ (wsX5_mapped_r2 ++ wsX5_mapped_r3)) ++ wsX50)
def wsX5_loss_r1 : List Cond := [Cond.methodLink RX5 88 yX5_isFolder, Cond.instanceMethod yX5_isFolder, Cond.selects RX5 yX5_isFolder yX5_isFolder, Cond.initialized RX5, Cond.code yX5_isFolder cX5_isFolder 2 (some .boolean), Cond.fieldLink RX5 29 "ShareMoverModel" "folders" "I", Cond.methodLink RX5 63 yX5_in, Cond.static yX5_in, Cond.code yX5_in cX5_in 3 (some .boolean), Cond.methodLink RX5 82 yX5_isFine, Cond.instanceMethod yX5_isFine, Cond.selects RX5 yX5_isFine yX5_isFine, Cond.code yX5_isFine cX5_isFine 2 (some .boolean), Cond.fieldLink RX5 60 "ShareMoverModel" "thrown" "I", Cond.methodLink RX5 122 yX5_mapsBest, Cond.instanceMethod yX5_mapsBest, Cond.selects RX5 yX5_mapsBest yX5_mapsBest, Cond.code yX5_mapsBest cX5_mapsBest 6 (some .int), Cond.methodLink RX5 119 yX5_maps, Cond.instanceMethod yX5_maps, Cond.selects RX5 yX5_maps yX5_maps, Cond.code yX5_maps cX5_maps 7 (some .int), Cond.fieldLink RX5 45 "ShareMoverModel" "own" "[I", Cond.fieldLink RX5 101 "ShareMoverModel" "named" "I"]
def wsX5_loss_r2 : List Cond := [Cond.fieldLink RX5 48 "ShareMoverModel" "mapped" "[I", Cond.methodLink RX5 94 yX5_rightsOf, Cond.instanceMethod yX5_rightsOf, Cond.selects RX5 yX5_rightsOf yX5_rightsOf, Cond.code yX5_rightsOf cX5_rightsOf 9 (some .int), Cond.fieldLink RX5 19 "ShareMoverModel" "owner" "[I", Cond.fieldLink RX5 26 "ShareMoverModel" "entries" "[I", Cond.fieldLink RX5 42 "ShareMoverModel" "scope" "[I", Cond.fieldLink RX5 36 "ShareMoverModel" "allows" "[Z", Cond.fieldLink RX5 39 "ShareMoverModel" "given" "[I", Cond.fieldLink RX5 22 "ShareMoverModel" "inherits" "[Z", Cond.fieldLink RX5 16 "ShareMoverModel" "parent" "[I", Cond.methodLink RX5 91 yX5_isFor, Cond.instanceMethod yX5_isFor, Cond.selects RX5 yX5_isFor yX5_isFor, Cond.code yX5_isFor cX5_isFor 3 (some .boolean), Cond.fieldLink RX5 33 "ShareMoverModel" "who" "[I", Cond.methodLink RX5 85 yX5_membersOf, Cond.instanceMethod yX5_membersOf, Cond.selects RX5 yX5_membersOf yX5_membersOf, Cond.code yX5_membersOf cX5_membersOf 5 (some .int), Cond.fieldLink RX5 7 "ShareMoverModel" "persons" "[I", Cond.methodLink RX5 71 yX5_groupsIn, Cond.instanceMethod yX5_groupsIn]
def wsX5_loss_r3 : List Cond := [Cond.selects RX5 yX5_groupsIn yX5_groupsIn, Cond.code yX5_groupsIn cX5_groupsIn 5 (some .int), Cond.fieldLink RX5 13 "ShareMoverModel" "inner" "[I", Cond.methodLink RX5 67 yX5_has, Cond.static yX5_has, Cond.code yX5_has cX5_has 2 (some .boolean), Cond.methodLink RX5 116 yX5_fits, Cond.instanceMethod yX5_fits, Cond.selects RX5 yX5_fits yX5_fits, Cond.code yX5_fits cX5_fits 7 (some .int), Cond.fieldLink RX5 107 "ShareMoverModel" "groupBits" "I", Cond.fieldLink RX5 110 "ShareMoverModel" "otherBits" "I", Cond.methodLink RX5 104 yX5_common, Cond.instanceMethod yX5_common, Cond.selects RX5 yX5_common yX5_common, Cond.code yX5_common cX5_common 4 (some .int), Cond.methodLink RX5 113 yX5_size, Cond.static yX5_size, Cond.code yX5_size cX5_size 3 (some .int)]
def wsX5_loss : List Cond := .code yX5_loss cX5_loss 2 (some .int) :: ((wsX5_loss_r1 ++ (wsX5_loss_r2 ++ wsX5_loss_r3)) ++ wsX50)
def wsX5_lossWith_r1 : List Cond := [Cond.methodLink RX5 88 yX5_isFolder, Cond.instanceMethod yX5_isFolder, Cond.selects RX5 yX5_isFolder yX5_isFolder, Cond.initialized RX5, Cond.code yX5_isFolder cX5_isFolder 2 (some .boolean), Cond.fieldLink RX5 29 "ShareMoverModel" "folders" "I", Cond.methodLink RX5 63 yX5_in, Cond.static yX5_in, Cond.code yX5_in cX5_in 3 (some .boolean), Cond.methodLink RX5 82 yX5_isFine, Cond.instanceMethod yX5_isFine, Cond.selects RX5 yX5_isFine yX5_isFine, Cond.code yX5_isFine cX5_isFine 2 (some .boolean), Cond.fieldLink RX5 60 "ShareMoverModel" "thrown" "I", Cond.methodLink RX5 119 yX5_maps, Cond.instanceMethod yX5_maps, Cond.selects RX5 yX5_maps yX5_maps, Cond.code yX5_maps cX5_maps 7 (some .int), Cond.fieldLink RX5 45 "ShareMoverModel" "own" "[I", Cond.fieldLink RX5 101 "ShareMoverModel" "named" "I", Cond.fieldLink RX5 48 "ShareMoverModel" "mapped" "[I", Cond.methodLink RX5 94 yX5_rightsOf, Cond.instanceMethod yX5_rightsOf, Cond.selects RX5 yX5_rightsOf yX5_rightsOf]
def wsX5_lossWith_r2 : List Cond := [Cond.code yX5_rightsOf cX5_rightsOf 9 (some .int), Cond.fieldLink RX5 19 "ShareMoverModel" "owner" "[I", Cond.fieldLink RX5 26 "ShareMoverModel" "entries" "[I", Cond.fieldLink RX5 42 "ShareMoverModel" "scope" "[I", Cond.fieldLink RX5 36 "ShareMoverModel" "allows" "[Z", Cond.fieldLink RX5 39 "ShareMoverModel" "given" "[I", Cond.fieldLink RX5 22 "ShareMoverModel" "inherits" "[Z", Cond.fieldLink RX5 16 "ShareMoverModel" "parent" "[I", Cond.methodLink RX5 91 yX5_isFor, Cond.instanceMethod yX5_isFor, Cond.selects RX5 yX5_isFor yX5_isFor, Cond.code yX5_isFor cX5_isFor 3 (some .boolean), Cond.fieldLink RX5 33 "ShareMoverModel" "who" "[I", Cond.methodLink RX5 85 yX5_membersOf, Cond.instanceMethod yX5_membersOf, Cond.selects RX5 yX5_membersOf yX5_membersOf, Cond.code yX5_membersOf cX5_membersOf 5 (some .int), Cond.fieldLink RX5 7 "ShareMoverModel" "persons" "[I", Cond.methodLink RX5 71 yX5_groupsIn, Cond.instanceMethod yX5_groupsIn, Cond.selects RX5 yX5_groupsIn yX5_groupsIn, Cond.code yX5_groupsIn cX5_groupsIn 5 (some .int), Cond.fieldLink RX5 13 "ShareMoverModel" "inner" "[I", Cond.methodLink RX5 67 yX5_has]
def wsX5_lossWith_r3 : List Cond := [Cond.static yX5_has, Cond.code yX5_has cX5_has 2 (some .boolean), Cond.methodLink RX5 116 yX5_fits, Cond.instanceMethod yX5_fits, Cond.selects RX5 yX5_fits yX5_fits, Cond.code yX5_fits cX5_fits 7 (some .int), Cond.fieldLink RX5 107 "ShareMoverModel" "groupBits" "I", Cond.fieldLink RX5 110 "ShareMoverModel" "otherBits" "I", Cond.methodLink RX5 104 yX5_common, Cond.instanceMethod yX5_common, Cond.selects RX5 yX5_common yX5_common, Cond.code yX5_common cX5_common 4 (some .int), Cond.methodLink RX5 113 yX5_size, Cond.static yX5_size, Cond.code yX5_size cX5_size 3 (some .int)]
def wsX5_lossWith : List Cond := .code yX5_lossWith cX5_lossWith 3 (some .int) :: ((wsX5_lossWith_r1 ++ (wsX5_lossWith_r2 ++ wsX5_lossWith_r3)) ++ wsX50)
def wsX5_pass_r1 : List Cond := [Cond.fieldLink RX5 60 "ShareMoverModel" "thrown" "I", Cond.fieldLink RX5 29 "ShareMoverModel" "folders" "I", Cond.fieldLink RX5 51 "ShareMoverModel" "isKept" "[Z", Cond.fieldLink RX5 54 "ShareMoverModel" "kept" "[I", Cond.fieldLink RX5 48 "ShareMoverModel" "mapped" "[I", Cond.methodLink RX5 122 yX5_mapsBest, Cond.instanceMethod yX5_mapsBest, Cond.selects RX5 yX5_mapsBest yX5_mapsBest, Cond.initialized RX5, Cond.code yX5_mapsBest cX5_mapsBest 6 (some .int), Cond.methodLink RX5 119 yX5_maps, Cond.instanceMethod yX5_maps, Cond.selects RX5 yX5_maps yX5_maps, Cond.code yX5_maps cX5_maps 7 (some .int), Cond.fieldLink RX5 45 "ShareMoverModel" "own" "[I", Cond.fieldLink RX5 101 "ShareMoverModel" "named" "I", Cond.methodLink RX5 94 yX5_rightsOf, Cond.instanceMethod yX5_rightsOf, Cond.selects RX5 yX5_rightsOf yX5_rightsOf, Cond.code yX5_rightsOf cX5_rightsOf 9 (some .int), Cond.fieldLink RX5 19 "ShareMoverModel" "owner" "[I", Cond.fieldLink RX5 26 "ShareMoverModel" "entries" "[I", Cond.fieldLink RX5 42 "ShareMoverModel" "scope" "[I", Cond.fieldLink RX5 36 "ShareMoverModel" "allows" "[Z"]
def wsX5_pass_r2 : List Cond := [Cond.fieldLink RX5 39 "ShareMoverModel" "given" "[I", Cond.fieldLink RX5 22 "ShareMoverModel" "inherits" "[Z", Cond.fieldLink RX5 16 "ShareMoverModel" "parent" "[I", Cond.methodLink RX5 91 yX5_isFor, Cond.instanceMethod yX5_isFor, Cond.selects RX5 yX5_isFor yX5_isFor, Cond.code yX5_isFor cX5_isFor 3 (some .boolean), Cond.fieldLink RX5 33 "ShareMoverModel" "who" "[I", Cond.methodLink RX5 85 yX5_membersOf, Cond.instanceMethod yX5_membersOf, Cond.selects RX5 yX5_membersOf yX5_membersOf, Cond.code yX5_membersOf cX5_membersOf 5 (some .int), Cond.fieldLink RX5 7 "ShareMoverModel" "persons" "[I", Cond.methodLink RX5 71 yX5_groupsIn, Cond.instanceMethod yX5_groupsIn, Cond.selects RX5 yX5_groupsIn yX5_groupsIn, Cond.code yX5_groupsIn cX5_groupsIn 5 (some .int), Cond.fieldLink RX5 13 "ShareMoverModel" "inner" "[I", Cond.methodLink RX5 67 yX5_has, Cond.static yX5_has, Cond.code yX5_has cX5_has 2 (some .boolean), Cond.methodLink RX5 116 yX5_fits, Cond.instanceMethod yX5_fits, Cond.selects RX5 yX5_fits yX5_fits]
def wsX5_pass_r3 : List Cond := [Cond.code yX5_fits cX5_fits 7 (some .int), Cond.fieldLink RX5 107 "ShareMoverModel" "groupBits" "I", Cond.fieldLink RX5 110 "ShareMoverModel" "otherBits" "I", Cond.methodLink RX5 104 yX5_common, Cond.instanceMethod yX5_common, Cond.selects RX5 yX5_common yX5_common, Cond.code yX5_common cX5_common 4 (some .int), Cond.methodLink RX5 113 yX5_size, Cond.static yX5_size, Cond.code yX5_size cX5_size 3 (some .int)]
def wsX5_pass : List Cond := .code yX5_pass cX5_pass 5 (some .int) :: ((wsX5_pass_r1 ++ (wsX5_pass_r2 ++ wsX5_pass_r3)) ++ wsX50)
def wsX5_isFresh_r1 : List Cond := [Cond.fieldLink RX5 51 "ShareMoverModel" "isKept" "[Z", Cond.fieldLink RX5 54 "ShareMoverModel" "kept" "[I", Cond.fieldLink RX5 48 "ShareMoverModel" "mapped" "[I", Cond.methodLink RX5 88 yX5_isFolder, Cond.instanceMethod yX5_isFolder, Cond.selects RX5 yX5_isFolder yX5_isFolder, Cond.initialized RX5, Cond.code yX5_isFolder cX5_isFolder 2 (some .boolean), Cond.fieldLink RX5 29 "ShareMoverModel" "folders" "I", Cond.methodLink RX5 63 yX5_in, Cond.static yX5_in, Cond.code yX5_in cX5_in 3 (some .boolean), Cond.methodLink RX5 82 yX5_isFine, Cond.instanceMethod yX5_isFine, Cond.selects RX5 yX5_isFine yX5_isFine, Cond.code yX5_isFine cX5_isFine 2 (some .boolean), Cond.fieldLink RX5 60 "ShareMoverModel" "thrown" "I", Cond.methodLink RX5 122 yX5_mapsBest, Cond.instanceMethod yX5_mapsBest, Cond.selects RX5 yX5_mapsBest yX5_mapsBest, Cond.code yX5_mapsBest cX5_mapsBest 6 (some .int), Cond.methodLink RX5 119 yX5_maps, Cond.instanceMethod yX5_maps, Cond.selects RX5 yX5_maps yX5_maps]
def wsX5_isFresh_r2 : List Cond := [Cond.code yX5_maps cX5_maps 7 (some .int), Cond.fieldLink RX5 45 "ShareMoverModel" "own" "[I", Cond.fieldLink RX5 101 "ShareMoverModel" "named" "I", Cond.methodLink RX5 94 yX5_rightsOf, Cond.instanceMethod yX5_rightsOf, Cond.selects RX5 yX5_rightsOf yX5_rightsOf, Cond.code yX5_rightsOf cX5_rightsOf 9 (some .int), Cond.fieldLink RX5 19 "ShareMoverModel" "owner" "[I", Cond.fieldLink RX5 26 "ShareMoverModel" "entries" "[I", Cond.fieldLink RX5 42 "ShareMoverModel" "scope" "[I", Cond.fieldLink RX5 36 "ShareMoverModel" "allows" "[Z", Cond.fieldLink RX5 39 "ShareMoverModel" "given" "[I", Cond.fieldLink RX5 22 "ShareMoverModel" "inherits" "[Z", Cond.fieldLink RX5 16 "ShareMoverModel" "parent" "[I", Cond.methodLink RX5 91 yX5_isFor, Cond.instanceMethod yX5_isFor, Cond.selects RX5 yX5_isFor yX5_isFor, Cond.code yX5_isFor cX5_isFor 3 (some .boolean), Cond.fieldLink RX5 33 "ShareMoverModel" "who" "[I", Cond.methodLink RX5 85 yX5_membersOf, Cond.instanceMethod yX5_membersOf, Cond.selects RX5 yX5_membersOf yX5_membersOf, Cond.code yX5_membersOf cX5_membersOf 5 (some .int), Cond.fieldLink RX5 7 "ShareMoverModel" "persons" "[I"]
def wsX5_isFresh_r3 : List Cond := [Cond.methodLink RX5 71 yX5_groupsIn, Cond.instanceMethod yX5_groupsIn, Cond.selects RX5 yX5_groupsIn yX5_groupsIn, Cond.code yX5_groupsIn cX5_groupsIn 5 (some .int), Cond.fieldLink RX5 13 "ShareMoverModel" "inner" "[I", Cond.methodLink RX5 67 yX5_has, Cond.static yX5_has, Cond.code yX5_has cX5_has 2 (some .boolean), Cond.methodLink RX5 116 yX5_fits, Cond.instanceMethod yX5_fits, Cond.selects RX5 yX5_fits yX5_fits, Cond.code yX5_fits cX5_fits 7 (some .int), Cond.fieldLink RX5 107 "ShareMoverModel" "groupBits" "I", Cond.fieldLink RX5 110 "ShareMoverModel" "otherBits" "I", Cond.methodLink RX5 104 yX5_common, Cond.instanceMethod yX5_common, Cond.selects RX5 yX5_common yX5_common, Cond.code yX5_common cX5_common 4 (some .int), Cond.methodLink RX5 113 yX5_size, Cond.static yX5_size, Cond.code yX5_size cX5_size 3 (some .int)]
def wsX5_isFresh : List Cond := .code yX5_isFresh cX5_isFresh 4 (some .boolean) :: ((wsX5_isFresh_r1 ++ (wsX5_isFresh_r2 ++ wsX5_isFresh_r3)) ++ wsX50)
def wsX5_turn : List Cond := .code yX5_turn cX5_turn 2 (some .boolean) :: ([.fieldLink RX5 51 "ShareMoverModel" "isKept" "[Z", .fieldLink RX5 57 "ShareMoverModel" "turned" "[Z", .methodLink RX5 88 yX5_isFolder, .instanceMethod yX5_isFolder, .selects RX5 yX5_isFolder yX5_isFolder, .initialized RX5, .code yX5_isFolder cX5_isFolder 2 (some .boolean), .fieldLink RX5 29 "ShareMoverModel" "folders" "I", .methodLink RX5 63 yX5_in, .static yX5_in, .code yX5_in cX5_in 3 (some .boolean), .methodLink RX5 82 yX5_isFine, .instanceMethod yX5_isFine, .selects RX5 yX5_isFine yX5_isFine, .code yX5_isFine cX5_isFine 2 (some .boolean), .fieldLink RX5 60 "ShareMoverModel" "thrown" "I"] ++ wsX50)
def wsX5_now_r1 : List Cond := [Cond.fieldLink RX5 57 "ShareMoverModel" "turned" "[Z", Cond.fieldLink RX5 54 "ShareMoverModel" "kept" "[I", Cond.methodLink RX5 94 yX5_rightsOf, Cond.instanceMethod yX5_rightsOf, Cond.selects RX5 yX5_rightsOf yX5_rightsOf, Cond.initialized RX5, Cond.code yX5_rightsOf cX5_rightsOf 9 (some .int), Cond.fieldLink RX5 19 "ShareMoverModel" "owner" "[I", Cond.fieldLink RX5 26 "ShareMoverModel" "entries" "[I", Cond.fieldLink RX5 42 "ShareMoverModel" "scope" "[I", Cond.fieldLink RX5 36 "ShareMoverModel" "allows" "[Z", Cond.fieldLink RX5 39 "ShareMoverModel" "given" "[I", Cond.fieldLink RX5 22 "ShareMoverModel" "inherits" "[Z", Cond.fieldLink RX5 16 "ShareMoverModel" "parent" "[I", Cond.methodLink RX5 91 yX5_isFor, Cond.instanceMethod yX5_isFor, Cond.selects RX5 yX5_isFor yX5_isFor, Cond.code yX5_isFor cX5_isFor 3 (some .boolean), Cond.fieldLink RX5 33 "ShareMoverModel" "who" "[I", Cond.methodLink RX5 85 yX5_membersOf, Cond.instanceMethod yX5_membersOf, Cond.selects RX5 yX5_membersOf yX5_membersOf, Cond.code yX5_membersOf cX5_membersOf 5 (some .int), Cond.fieldLink RX5 7 "ShareMoverModel" "persons" "[I"]
def wsX5_now_r2 : List Cond := [Cond.methodLink RX5 71 yX5_groupsIn, Cond.instanceMethod yX5_groupsIn, Cond.selects RX5 yX5_groupsIn yX5_groupsIn, Cond.code yX5_groupsIn cX5_groupsIn 5 (some .int), Cond.fieldLink RX5 13 "ShareMoverModel" "inner" "[I", Cond.methodLink RX5 67 yX5_has, Cond.static yX5_has, Cond.code yX5_has cX5_has 2 (some .boolean)]
def wsX5_now : List Cond := .code yX5_now cX5_now 3 (some .int) :: ((wsX5_now_r1 ++ wsX5_now_r2) ++ wsX50)
def wsX5_rightsNow_r1 : List Cond := [Cond.methodLink RX5 79 yX5_isPerson, Cond.static yX5_isPerson, Cond.initialized RX5, Cond.code yX5_isPerson cX5_isPerson 1 (some .boolean), Cond.methodLink RX5 63 yX5_in, Cond.static yX5_in, Cond.code yX5_in cX5_in 3 (some .boolean), Cond.methodLink RX5 88 yX5_isFolder, Cond.instanceMethod yX5_isFolder, Cond.selects RX5 yX5_isFolder yX5_isFolder, Cond.code yX5_isFolder cX5_isFolder 2 (some .boolean), Cond.fieldLink RX5 29 "ShareMoverModel" "folders" "I", Cond.methodLink RX5 82 yX5_isFine, Cond.instanceMethod yX5_isFine, Cond.selects RX5 yX5_isFine yX5_isFine, Cond.code yX5_isFine cX5_isFine 2 (some .boolean), Cond.fieldLink RX5 60 "ShareMoverModel" "thrown" "I", Cond.methodLink RX5 125 yX5_now, Cond.instanceMethod yX5_now, Cond.selects RX5 yX5_now yX5_now, Cond.code yX5_now cX5_now 3 (some .int), Cond.fieldLink RX5 57 "ShareMoverModel" "turned" "[Z", Cond.fieldLink RX5 54 "ShareMoverModel" "kept" "[I", Cond.methodLink RX5 94 yX5_rightsOf]
def wsX5_rightsNow_r2 : List Cond := [Cond.instanceMethod yX5_rightsOf, Cond.selects RX5 yX5_rightsOf yX5_rightsOf, Cond.code yX5_rightsOf cX5_rightsOf 9 (some .int), Cond.fieldLink RX5 19 "ShareMoverModel" "owner" "[I", Cond.fieldLink RX5 26 "ShareMoverModel" "entries" "[I", Cond.fieldLink RX5 42 "ShareMoverModel" "scope" "[I", Cond.fieldLink RX5 36 "ShareMoverModel" "allows" "[Z", Cond.fieldLink RX5 39 "ShareMoverModel" "given" "[I", Cond.fieldLink RX5 22 "ShareMoverModel" "inherits" "[Z", Cond.fieldLink RX5 16 "ShareMoverModel" "parent" "[I", Cond.methodLink RX5 91 yX5_isFor, Cond.instanceMethod yX5_isFor, Cond.selects RX5 yX5_isFor yX5_isFor, Cond.code yX5_isFor cX5_isFor 3 (some .boolean), Cond.fieldLink RX5 33 "ShareMoverModel" "who" "[I", Cond.methodLink RX5 85 yX5_membersOf, Cond.instanceMethod yX5_membersOf, Cond.selects RX5 yX5_membersOf yX5_membersOf, Cond.code yX5_membersOf cX5_membersOf 5 (some .int), Cond.fieldLink RX5 7 "ShareMoverModel" "persons" "[I", Cond.methodLink RX5 71 yX5_groupsIn, Cond.instanceMethod yX5_groupsIn, Cond.selects RX5 yX5_groupsIn yX5_groupsIn, Cond.code yX5_groupsIn cX5_groupsIn 5 (some .int)]
def wsX5_rightsNow_r3 : List Cond := [Cond.fieldLink RX5 13 "ShareMoverModel" "inner" "[I", Cond.methodLink RX5 67 yX5_has, Cond.static yX5_has, Cond.code yX5_has cX5_has 2 (some .boolean)]
def wsX5_rightsNow : List Cond := .code yX5_rightsNow cX5_rightsNow 3 (some .int) :: ((wsX5_rightsNow_r1 ++ (wsX5_rightsNow_r2 ++ wsX5_rightsNow_r3)) ++ wsX50)
def wsX5_gainers_r1 : List Cond := [Cond.methodLink RX5 88 yX5_isFolder, Cond.instanceMethod yX5_isFolder, Cond.selects RX5 yX5_isFolder yX5_isFolder, Cond.initialized RX5, Cond.code yX5_isFolder cX5_isFolder 2 (some .boolean), Cond.fieldLink RX5 29 "ShareMoverModel" "folders" "I", Cond.methodLink RX5 63 yX5_in, Cond.static yX5_in, Cond.code yX5_in cX5_in 3 (some .boolean), Cond.methodLink RX5 82 yX5_isFine, Cond.instanceMethod yX5_isFine, Cond.selects RX5 yX5_isFine yX5_isFine, Cond.code yX5_isFine cX5_isFine 2 (some .boolean), Cond.fieldLink RX5 60 "ShareMoverModel" "thrown" "I", Cond.methodLink RX5 125 yX5_now, Cond.instanceMethod yX5_now, Cond.selects RX5 yX5_now yX5_now, Cond.code yX5_now cX5_now 3 (some .int), Cond.fieldLink RX5 57 "ShareMoverModel" "turned" "[Z", Cond.fieldLink RX5 54 "ShareMoverModel" "kept" "[I", Cond.methodLink RX5 94 yX5_rightsOf, Cond.instanceMethod yX5_rightsOf, Cond.selects RX5 yX5_rightsOf yX5_rightsOf, Cond.code yX5_rightsOf cX5_rightsOf 9 (some .int)]
def wsX5_gainers_r2 : List Cond := [Cond.fieldLink RX5 19 "ShareMoverModel" "owner" "[I", Cond.fieldLink RX5 26 "ShareMoverModel" "entries" "[I", Cond.fieldLink RX5 42 "ShareMoverModel" "scope" "[I", Cond.fieldLink RX5 36 "ShareMoverModel" "allows" "[Z", Cond.fieldLink RX5 39 "ShareMoverModel" "given" "[I", Cond.fieldLink RX5 22 "ShareMoverModel" "inherits" "[Z", Cond.fieldLink RX5 16 "ShareMoverModel" "parent" "[I", Cond.methodLink RX5 91 yX5_isFor, Cond.instanceMethod yX5_isFor, Cond.selects RX5 yX5_isFor yX5_isFor, Cond.code yX5_isFor cX5_isFor 3 (some .boolean), Cond.fieldLink RX5 33 "ShareMoverModel" "who" "[I", Cond.methodLink RX5 85 yX5_membersOf, Cond.instanceMethod yX5_membersOf, Cond.selects RX5 yX5_membersOf yX5_membersOf, Cond.code yX5_membersOf cX5_membersOf 5 (some .int), Cond.fieldLink RX5 7 "ShareMoverModel" "persons" "[I", Cond.methodLink RX5 71 yX5_groupsIn, Cond.instanceMethod yX5_groupsIn, Cond.selects RX5 yX5_groupsIn yX5_groupsIn, Cond.code yX5_groupsIn cX5_groupsIn 5 (some .int), Cond.fieldLink RX5 13 "ShareMoverModel" "inner" "[I", Cond.methodLink RX5 67 yX5_has, Cond.static yX5_has]
def wsX5_gainers_r3 : List Cond := [Cond.code yX5_has cX5_has 2 (some .boolean)]
def wsX5_gainers : List Cond := .code yX5_gainers cX5_gainers 4 (some .int) :: ((wsX5_gainers_r1 ++ (wsX5_gainers_r2 ++ wsX5_gainers_r3)) ++ wsX50)
def wsJ9_max_7cf53 : List Cond := .code yJ9_max_7cf53 cJ9_max_7cf53 2 (some .int) :: ([])
def wsJ9_min_7cf53 : List Cond := .code yJ9_min_7cf53 cJ9_min_7cf53 2 (some .int) :: ([])
def wsL_setMember_r1 : List Cond := [Cond.classLink RL 13 "java/lang/IndexOutOfBoundsException", Cond.methodLink RL 7 yX4_setMember, Cond.instanceMethod yX4_setMember, Cond.selects RX4 yX4_setMember yX4_setMember, Cond.initialized RX4, Cond.code yX4_setMember cX4_setMember 4 (some .boolean), Cond.fieldLink RX4 12 "ShareMover" "groups" "LShareMover$Groups;", Cond.methodLink RX4 39 yX4_refuseNoGroup, Cond.static yX4_refuseNoGroup, Cond.code yX4_refuseNoGroup cX4_refuseNoGroup 1 none, Cond.classLink RX4 89 "java/lang/IndexOutOfBoundsException", Cond.initialized "java/lang/IndexOutOfBoundsException", Cond.methodLink RX4 43 yX4_refuseNoPerson, Cond.static yX4_refuseNoPerson, Cond.code yX4_refuseNoPerson cX4_refuseNoPerson 1 none, Cond.methodLink RX4 46 yX2_put, Cond.instanceMethod yX2_put, Cond.selects RX2 yX2_put yX2_put, Cond.initialized RX2, Cond.code yX2_put cX2_put 5 (some .boolean), Cond.fieldLink RX2 9 "ShareMover$Groups" "ownPersons" "[I", Cond.static yX4_contains, Cond.code yX4_contains cX4_contains 2 (some .boolean), Cond.methodLink RX2 25 yX2_findEveryone]
def wsL_setMember_r2 : List Cond := [Cond.instanceMethod yX2_findEveryone, Cond.selects RX2 yX2_findEveryone yX2_findEveryone, Cond.code yX2_findEveryone cX2_findEveryone 5 none, Cond.fieldLink RX2 18 "ShareMover$Groups" "everyone" "[I", Cond.methodLink RX2 28 yX2_reachedFrom, Cond.instanceMethod yX2_reachedFrom, Cond.selects RX2 yX2_reachedFrom yX2_reachedFrom, Cond.code yX2_reachedFrom cX2_reachedFrom 5 (some .int), Cond.fieldLink RX2 15 "ShareMover$Groups" "ownGroups" "[I"]
def wsL_setMember : List Cond := .codeWith yL_setMember cL_setMember 6 (some .int) [(0, 19, 22, 13)] :: ((wsL_setMember_r1 ++ wsL_setMember_r2) ++ wsX40 ++ wsX20 ++ (vx_atS RX4 93 "java/lang/IndexOutOfBoundsException" ["java/lang/RuntimeException", "java/lang/Exception"]).filter goodWord)
def wsL_nest_r1 : List Cond := [Cond.classLink RL 13 "java/lang/IndexOutOfBoundsException", Cond.classLink RL 19 "java/lang/IllegalStateException", Cond.methodLink RL 15 yX4_nest, Cond.instanceMethod yX4_nest, Cond.selects RX4 yX4_nest yX4_nest, Cond.initialized RX4, Cond.code yX4_nest cX4_nest 3 (some .boolean), Cond.classLink RX4 58 "java/lang/IllegalStateException", Cond.initialized "java/lang/IllegalStateException", Cond.fieldLink RX4 12 "ShareMover" "groups" "LShareMover$Groups;", Cond.methodLink RX4 39 yX4_refuseNoGroup, Cond.static yX4_refuseNoGroup, Cond.code yX4_refuseNoGroup cX4_refuseNoGroup 1 none, Cond.classLink RX4 89 "java/lang/IndexOutOfBoundsException", Cond.initialized "java/lang/IndexOutOfBoundsException", Cond.methodLink RX4 50 yX2_reachedFrom, Cond.instanceMethod yX2_reachedFrom, Cond.selects RX2 yX2_reachedFrom yX2_reachedFrom, Cond.initialized RX2, Cond.code yX2_reachedFrom cX2_reachedFrom 5 (some .int), Cond.fieldLink RX2 15 "ShareMover$Groups" "ownGroups" "[I", Cond.static yX4_contains, Cond.code yX4_contains cX4_contains 2 (some .boolean), Cond.methodLink RX4 54 yX4_contains]
def wsL_nest_r2 : List Cond := [Cond.methodLink RX4 65 yX2_toggleInner, Cond.instanceMethod yX2_toggleInner, Cond.selects RX2 yX2_toggleInner yX2_toggleInner, Cond.code yX2_toggleInner cX2_toggleInner 3 (some .boolean), Cond.methodLink RX2 25 yX2_findEveryone, Cond.instanceMethod yX2_findEveryone, Cond.selects RX2 yX2_findEveryone yX2_findEveryone, Cond.code yX2_findEveryone cX2_findEveryone 5 none, Cond.fieldLink RX2 9 "ShareMover$Groups" "ownPersons" "[I", Cond.fieldLink RX2 18 "ShareMover$Groups" "everyone" "[I", Cond.methodLink RX2 28 yX2_reachedFrom]
def wsL_nest : List Cond := .codeWith yL_nest cL_nest 5 (some .int) [(0, 17, 20, 13), (0, 17, 24, 19)] :: ((wsL_nest_r1 ++ wsL_nest_r2) ++ wsX40 ++ wsX20 ++ (vx_atS RX4 62 "java/lang/IllegalStateException" ["java/lang/RuntimeException", "java/lang/Exception"]).filter goodWord ++ (vx_atS RX4 93 "java/lang/IndexOutOfBoundsException" ["java/lang/RuntimeException", "java/lang/Exception"]).filter goodWord)
def wsL_members : List Cond := .codeWith yL_members cL_members 4 (some .int) [(0, 9, 12, 13)] :: ([.classLink RL 13 "java/lang/IndexOutOfBoundsException", .methodLink RL 21 yX4_members, .instanceMethod yX4_members, .selects RX4 yX4_members yX4_members, .initialized RX4, .code yX4_members cX4_members 2 (some .int), .fieldLink RX4 12 "ShareMover" "groups" "LShareMover$Groups;", .methodLink RX4 39 yX4_refuseNoGroup, .static yX4_refuseNoGroup, .code yX4_refuseNoGroup cX4_refuseNoGroup 1 none, .classLink RX4 89 "java/lang/IndexOutOfBoundsException", .initialized "java/lang/IndexOutOfBoundsException", .methodLink RX4 68 yX2_everyoneIn, .instanceMethod yX2_everyoneIn, .selects RX2 yX2_everyoneIn yX2_everyoneIn, .initialized RX2, .code yX2_everyoneIn cX2_everyoneIn 2 (some .int), .fieldLink RX2 18 "ShareMover$Groups" "everyone" "[I"] ++ wsX40 ++ wsX20 ++ (vx_atS RX4 93 "java/lang/IndexOutOfBoundsException" ["java/lang/RuntimeException", "java/lang/Exception"]).filter goodWord)
def wsL_addFolder_r1 : List Cond := [Cond.classLink RL 13 "java/lang/IndexOutOfBoundsException", Cond.classLink RL 19 "java/lang/IllegalStateException", Cond.methodLink RL 25 yX4_addFolder, Cond.instanceMethod yX4_addFolder, Cond.selects RX4 yX4_addFolder yX4_addFolder, Cond.initialized RX4, Cond.code yX4_addFolder cX4_addFolder 4 (some .int), Cond.classLink RX4 58 "java/lang/IllegalStateException", Cond.initialized "java/lang/IllegalStateException", Cond.fieldLink RX4 19 "ShareMover" "tree" "Ljava/util/ArrayList;", Cond.classLink RX4 30 RX1, Cond.instantiable RX1 7, Cond.initialized RX1, Cond.methodLink RX4 71 yX4_folderAt, Cond.instanceMethod yX4_folderAt, Cond.selects RX4 yX4_folderAt yX4_folderAt, Cond.code yX4_folderAt cX4_folderAt 2 (some (.object "ShareMover$Folder")), Cond.classLink RX4 89 "java/lang/IndexOutOfBoundsException", Cond.initialized "java/lang/IndexOutOfBoundsException", Cond.classLink RX4 30 "ShareMover$Folder", Cond.methodLink RX4 75 yJx4a65c_size_8abf5, Cond.instanceMethod yJx4a65c_size_8abf5, Cond.selects RJx4a65c yJx4a65c_size_8abf5 yJx4a65c_size_8abf5, Cond.initialized RJx4a65c]
def wsL_addFolder_r2 : List Cond := [Cond.code yJx4a65c_size_8abf5 cJx4a65c_size_8abf5 1 (some .int), Cond.fieldLink RJx4a65c 48 "java/util/ArrayList" "size" "I", Cond.methodLink RX4 155 yJx4a65c_get_915e3, Cond.instanceMethod yJx4a65c_get_915e3, Cond.selects RJx4a65c yJx4a65c_get_915e3 yJx4a65c_get_915e3, Cond.code yJx4a65c_get_915e3 cJx4a65c_get_915e3 2 (some (.object "java/lang/Object")), Cond.methodLink RJx4a65c 118 yJ15_checkIndex_7cf53, Cond.static yJ15_checkIndex_7cf53, Cond.initialized RJ15, Cond.code yJ15_checkIndex_7cf53 cJ15_checkIndex_7cf53 2 (some .int), Cond.methodLink RJ15 105 yJ3_checkIndex_8e157, Cond.static yJ3_checkIndex_8e157, Cond.initialized RJ3, Cond.code yJ3_checkIndex_8e157 cJ3_checkIndex_8e157 3 (some .int), Cond.methodLink RJx4a65c 123 yJx4a65c_elementData_915e3, Cond.instanceMethod yJx4a65c_elementData_915e3, Cond.selects RJx4a65c yJx4a65c_elementData_915e3 yJx4a65c_elementData_915e3, Cond.code yJx4a65c_elementData_915e3 cJx4a65c_elementData_915e3 2 (some (.object "java/lang/Object")), Cond.fieldLink RJx4a65c 9 "java/util/ArrayList" "elementData" "[Ljava/lang/Object;", Cond.methodLink RX4 43 yX4_refuseNoPerson, Cond.static yX4_refuseNoPerson, Cond.code yX4_refuseNoPerson cX4_refuseNoPerson 1 none, Cond.methodLink RX4 32 yX1_init, Cond.instanceMethod yX1_init]
def wsL_addFolder_r3 : List Cond := [Cond.code yX1_init cX1_init 3 none, Cond.methodLink RX1 3 objectInit, Cond.instanceMethod objectInit, Cond.code objectInit ⟨#[0xb1]⟩ 1 none, Cond.classLink RX1 9 RJx4a65c, Cond.instantiable RJx4a65c 3, Cond.fieldLink RX1 12 "ShareMover$Folder" "row" "Ljava/util/ArrayList;", Cond.arrayClass .int, Cond.fieldLink RX1 18 "ShareMover$Folder" "kept" "[I", Cond.fieldLink RX1 22 "ShareMover$Folder" "inherits" "Z", Cond.fieldLink RX1 26 "ShareMover$Folder" "hasKept" "Z", Cond.fieldLink RX1 29 "ShareMover$Folder" "switched" "Z", Cond.fieldLink RX1 32 "ShareMover$Folder" "parent" "LShareMover$Folder;", Cond.fieldLink RX1 36 "ShareMover$Folder" "owner" "I", Cond.methodLink RX1 11 yJx4a65c_init_da8c8, Cond.instanceMethod yJx4a65c_init_da8c8, Cond.code yJx4a65c_init_da8c8 cJx4a65c_init_da8c8 1 none, Cond.fieldLink RJx4a65c 39 "java/util/ArrayList" "DEFAULTCAPACITY_EMPTY_ELEMENTDATA" "[Ljava/lang/Object;", Cond.methodLink RJx4a65c 1 yJxc12de_init_da8c8, Cond.instanceMethod yJxc12de_init_da8c8, Cond.initialized RJxc12de, Cond.code yJxc12de_init_da8c8 cJxc12de_init_da8c8 1 none, Cond.fieldLink RJxc12de 7 "java/util/AbstractList" "modCount" "I", Cond.methodLink RJxc12de 1 yJxa1e45_init_da8c8]
def wsL_addFolder_r4 : List Cond := [Cond.instanceMethod yJxa1e45_init_da8c8, Cond.initialized RJxa1e45, Cond.code yJxa1e45_init_da8c8 cJxa1e45_init_da8c8 1 none, Cond.methodLink RJxa1e45 1 objectInit, Cond.methodLink RX4 35 yJx4a65c_add_9ea2d, Cond.instanceMethod yJx4a65c_add_9ea2d, Cond.selects RJx4a65c yJx4a65c_add_9ea2d yJx4a65c_add_9ea2d, Cond.code yJx4a65c_add_9ea2d cJx4a65c_add_9ea2d 2 (some .boolean), Cond.fieldLink RJx4a65c 63 "java/util/ArrayList" "modCount" "I", Cond.sameField "java/util/ArrayList" "java/util/AbstractList" "modCount" "I", Cond.methodLink RJx4a65c 131 yJx4a65c_add_72be8, Cond.instanceMethod yJx4a65c_add_72be8, Cond.selects RJx4a65c yJx4a65c_add_72be8 yJx4a65c_add_72be8, Cond.code yJx4a65c_add_72be8 cJx4a65c_add_72be8 4 none, Cond.methodLink RJx4a65c 129 yJx4a65c_grow_d5877, Cond.instanceMethod yJx4a65c_grow_d5877, Cond.selects RJx4a65c yJx4a65c_grow_d5877 yJx4a65c_grow_d5877, Cond.code yJx4a65c_grow_d5877 cJx4a65c_grow_d5877 1 (some (.array (.object "java/lang/Object"))), Cond.methodLink RJx4a65c 69 yJx4a65c_grow_92f84, Cond.instanceMethod yJx4a65c_grow_92f84, Cond.selects RJx4a65c yJx4a65c_grow_92f84 yJx4a65c_grow_92f84, Cond.code yJx4a65c_grow_92f84 cJx4a65c_grow_92f84 4 (some (.array (.object "java/lang/Object"))), Cond.methodLink RJx4a65c 79 Lib.Math.max.name, Cond.static Lib.Math.max.name]
def wsL_addFolder_r5 : List Cond := [Cond.initialized "java/lang/Math", Cond.code Lib.Math.max.name Lib.Math.max.code 2 (some .int), Cond.classLink RJx4a65c 7 "java/lang/Object", Cond.methodLink RJx4a65c 73 yJ8_newLength_cabcc, Cond.static yJ8_newLength_cabcc, Cond.initialized RJ8, Cond.code yJ8_newLength_cabcc cJ8_newLength_cabcc 4 (some .int), Cond.methodLink RJ8 194 Lib.Math.max.name, Cond.constant RJ8 200 (2147483639), Cond.methodLink RJ8 201 yJ8_hugeLength_7cf53, Cond.static yJ8_hugeLength_7cf53, Cond.code yJ8_hugeLength_7cf53 cJ8_hugeLength_7cf53 3 (some .int), Cond.methodLink RJx4a65c 66 yJ7_copyOf_1904c, Cond.static yJ7_copyOf_1904c, Cond.initialized RJ7, Cond.code yJ7_copyOf_1904c cJ7_copyOf_1904c 2 (some (.array (.object "java/lang/Object"))), Cond.methodLink RJ7 86 ⟨"java/lang/Object", "getClass", "()Ljava/lang/Class;"⟩, Cond.selects "[Ljava/lang/Object;" ⟨"java/lang/Object", "getClass", "()Ljava/lang/Class;"⟩ ⟨"java/lang/Object", "getClass", "()Ljava/lang/Class;"⟩, Cond.instanceMethod ⟨"java/lang/Object", "getClass", "()Ljava/lang/Class;"⟩, Cond.native ⟨"java/lang/Object", "getClass", "()Ljava/lang/Class;"⟩, Cond.methodLink RJ7 300 yJ7_copyOf_6403c, Cond.static yJ7_copyOf_6403c, Cond.code yJ7_copyOf_6403c cJ7_copyOf_6403c 4 (some (.array (.object "java/lang/Object"))), Cond.classLink RJ7 110 "[Ljava/lang/Object;"]
def wsL_addFolder_r6 : List Cond := [Cond.classLink RJ7 2 "java/lang/Object", Cond.methodLink RJ7 304 Lib.Math.min.name, Cond.static Lib.Math.min.name, Cond.code Lib.Math.min.name Lib.Math.min.code 2 (some .int), Cond.methodLink RJ7 150 arraycopyName, Cond.native arraycopyName, Cond.static arraycopyName, Cond.initialized "java/lang/System"]
def wsL_addFolder : List Cond := .codeWith yL_addFolder cL_addFolder 5 (some .int) [(0, 10, 13, 13), (0, 10, 17, 19)] :: ((wsL_addFolder_r1 ++ (wsL_addFolder_r2 ++ (wsL_addFolder_r3 ++ (wsL_addFolder_r4 ++ (wsL_addFolder_r5 ++ wsL_addFolder_r6))))) ++ wsX40 ++ wsX10 ++ wsJx4a65c0 ++ (vx_atS RX4 62 "java/lang/IllegalStateException" ["java/lang/RuntimeException", "java/lang/Exception"]).filter goodWord ++ (vx_atS RX4 93 "java/lang/IndexOutOfBoundsException" ["java/lang/RuntimeException", "java/lang/Exception"]).filter goodWord)
def wsL_setOwner_r1 : List Cond := [Cond.classLink RL 13 "java/lang/IndexOutOfBoundsException", Cond.methodLink RL 29 yX4_setOwner, Cond.instanceMethod yX4_setOwner, Cond.selects RX4 yX4_setOwner yX4_setOwner, Cond.initialized RX4, Cond.code yX4_setOwner cX4_setOwner 5 (some .int), Cond.fieldLink RX4 81 "ShareMover$Folder" "owner" "I", Cond.methodLink RX4 71 yX4_folderAt, Cond.instanceMethod yX4_folderAt, Cond.selects RX4 yX4_folderAt yX4_folderAt, Cond.code yX4_folderAt cX4_folderAt 2 (some (.object "ShareMover$Folder")), Cond.classLink RX4 89 "java/lang/IndexOutOfBoundsException", Cond.initialized "java/lang/IndexOutOfBoundsException", Cond.fieldLink RX4 19 "ShareMover" "tree" "Ljava/util/ArrayList;", Cond.classLink RX4 30 "ShareMover$Folder", Cond.methodLink RX4 75 yJx4a65c_size_8abf5, Cond.instanceMethod yJx4a65c_size_8abf5, Cond.selects RJx4a65c yJx4a65c_size_8abf5 yJx4a65c_size_8abf5, Cond.initialized RJx4a65c, Cond.code yJx4a65c_size_8abf5 cJx4a65c_size_8abf5 1 (some .int), Cond.fieldLink RJx4a65c 48 "java/util/ArrayList" "size" "I", Cond.methodLink RX4 155 yJx4a65c_get_915e3, Cond.instanceMethod yJx4a65c_get_915e3, Cond.selects RJx4a65c yJx4a65c_get_915e3 yJx4a65c_get_915e3]
def wsL_setOwner_r2 : List Cond := [Cond.code yJx4a65c_get_915e3 cJx4a65c_get_915e3 2 (some (.object "java/lang/Object")), Cond.methodLink RJx4a65c 118 yJ15_checkIndex_7cf53, Cond.static yJ15_checkIndex_7cf53, Cond.initialized RJ15, Cond.code yJ15_checkIndex_7cf53 cJ15_checkIndex_7cf53 2 (some .int), Cond.methodLink RJ15 105 yJ3_checkIndex_8e157, Cond.static yJ3_checkIndex_8e157, Cond.initialized RJ3, Cond.code yJ3_checkIndex_8e157 cJ3_checkIndex_8e157 3 (some .int), Cond.methodLink RJx4a65c 123 yJx4a65c_elementData_915e3, Cond.instanceMethod yJx4a65c_elementData_915e3, Cond.selects RJx4a65c yJx4a65c_elementData_915e3 yJx4a65c_elementData_915e3, Cond.code yJx4a65c_elementData_915e3 cJx4a65c_elementData_915e3 2 (some (.object "java/lang/Object")), Cond.fieldLink RJx4a65c 9 "java/util/ArrayList" "elementData" "[Ljava/lang/Object;", Cond.methodLink RX4 43 yX4_refuseNoPerson, Cond.static yX4_refuseNoPerson, Cond.code yX4_refuseNoPerson cX4_refuseNoPerson 1 none]
def wsL_setOwner : List Cond := .codeWith yL_setOwner cL_setOwner 5 (some .int) [(0, 10, 13, 13)] :: ((wsL_setOwner_r1 ++ wsL_setOwner_r2) ++ wsX10 ++ wsX40 ++ wsJx4a65c0 ++ (vx_atS RX4 93 "java/lang/IndexOutOfBoundsException" ["java/lang/RuntimeException", "java/lang/Exception"]).filter goodWord)
def wsL_setInherits_r1 : List Cond := [Cond.classLink RL 13 "java/lang/IndexOutOfBoundsException", Cond.methodLink RL 32 yX4_setInherits, Cond.instanceMethod yX4_setInherits, Cond.selects RX4 yX4_setInherits yX4_setInherits, Cond.initialized RX4, Cond.code yX4_setInherits cX4_setInherits 5 (some .boolean), Cond.fieldLink RX4 85 "ShareMover$Folder" "inherits" "Z", Cond.methodLink RX4 71 yX4_folderAt, Cond.instanceMethod yX4_folderAt, Cond.selects RX4 yX4_folderAt yX4_folderAt, Cond.code yX4_folderAt cX4_folderAt 2 (some (.object "ShareMover$Folder")), Cond.classLink RX4 89 "java/lang/IndexOutOfBoundsException", Cond.initialized "java/lang/IndexOutOfBoundsException", Cond.fieldLink RX4 19 "ShareMover" "tree" "Ljava/util/ArrayList;", Cond.classLink RX4 30 "ShareMover$Folder", Cond.methodLink RX4 75 yJx4a65c_size_8abf5, Cond.instanceMethod yJx4a65c_size_8abf5, Cond.selects RJx4a65c yJx4a65c_size_8abf5 yJx4a65c_size_8abf5, Cond.initialized RJx4a65c, Cond.code yJx4a65c_size_8abf5 cJx4a65c_size_8abf5 1 (some .int), Cond.fieldLink RJx4a65c 48 "java/util/ArrayList" "size" "I", Cond.methodLink RX4 155 yJx4a65c_get_915e3, Cond.instanceMethod yJx4a65c_get_915e3, Cond.selects RJx4a65c yJx4a65c_get_915e3 yJx4a65c_get_915e3]
def wsL_setInherits_r2 : List Cond := [Cond.code yJx4a65c_get_915e3 cJx4a65c_get_915e3 2 (some (.object "java/lang/Object")), Cond.methodLink RJx4a65c 118 yJ15_checkIndex_7cf53, Cond.static yJ15_checkIndex_7cf53, Cond.initialized RJ15, Cond.code yJ15_checkIndex_7cf53 cJ15_checkIndex_7cf53 2 (some .int), Cond.methodLink RJ15 105 yJ3_checkIndex_8e157, Cond.static yJ3_checkIndex_8e157, Cond.initialized RJ3, Cond.code yJ3_checkIndex_8e157 cJ3_checkIndex_8e157 3 (some .int), Cond.methodLink RJx4a65c 123 yJx4a65c_elementData_915e3, Cond.instanceMethod yJx4a65c_elementData_915e3, Cond.selects RJx4a65c yJx4a65c_elementData_915e3 yJx4a65c_elementData_915e3, Cond.code yJx4a65c_elementData_915e3 cJx4a65c_elementData_915e3 2 (some (.object "java/lang/Object")), Cond.fieldLink RJx4a65c 9 "java/util/ArrayList" "elementData" "[Ljava/lang/Object;"]
def wsL_setInherits : List Cond := .codeWith yL_setInherits cL_setInherits 5 (some .int) [(0, 17, 20, 13)] :: ((wsL_setInherits_r1 ++ wsL_setInherits_r2) ++ wsX10 ++ wsX40 ++ wsJx4a65c0 ++ (vx_atS RX4 93 "java/lang/IndexOutOfBoundsException" ["java/lang/RuntimeException", "java/lang/Exception"]).filter goodWord)
def wsL_allow_r1 : List Cond := [Cond.classLink RL 13 "java/lang/IndexOutOfBoundsException", Cond.classLink RL 40 "java/lang/IllegalArgumentException", Cond.classLink RL 19 "java/lang/IllegalStateException", Cond.methodLink RL 36 yX4_allow, Cond.instanceMethod yX4_allow, Cond.selects RX4 yX4_allow yX4_allow, Cond.initialized RX4, Cond.code yX4_allow cX4_allow 7 (some .int), Cond.classLink RX4 89 "java/lang/IndexOutOfBoundsException", Cond.initialized "java/lang/IndexOutOfBoundsException", Cond.classLink RX4 94 "java/lang/IllegalArgumentException", Cond.initialized "java/lang/IllegalArgumentException", Cond.classLink RX4 58 "java/lang/IllegalStateException", Cond.initialized "java/lang/IllegalStateException", Cond.fieldLink RX4 99 "ShareMover$Folder" "row" "Ljava/util/ArrayList;", Cond.classLink RX4 104 RX0, Cond.instantiable RX0 4, Cond.initialized RX0, Cond.methodLink RX4 71 yX4_folderAt, Cond.instanceMethod yX4_folderAt, Cond.selects RX4 yX4_folderAt yX4_folderAt, Cond.code yX4_folderAt cX4_folderAt 2 (some (.object "ShareMover$Folder")), Cond.fieldLink RX4 19 "ShareMover" "tree" "Ljava/util/ArrayList;", Cond.classLink RX4 30 "ShareMover$Folder"]
def wsL_allow_r2 : List Cond := [Cond.methodLink RX4 75 yJx4a65c_size_8abf5, Cond.instanceMethod yJx4a65c_size_8abf5, Cond.selects RJx4a65c yJx4a65c_size_8abf5 yJx4a65c_size_8abf5, Cond.initialized RJx4a65c, Cond.code yJx4a65c_size_8abf5 cJx4a65c_size_8abf5 1 (some .int), Cond.fieldLink RJx4a65c 48 "java/util/ArrayList" "size" "I", Cond.methodLink RX4 155 yJx4a65c_get_915e3, Cond.instanceMethod yJx4a65c_get_915e3, Cond.selects RJx4a65c yJx4a65c_get_915e3 yJx4a65c_get_915e3, Cond.code yJx4a65c_get_915e3 cJx4a65c_get_915e3 2 (some (.object "java/lang/Object")), Cond.methodLink RJx4a65c 118 yJ15_checkIndex_7cf53, Cond.static yJ15_checkIndex_7cf53, Cond.initialized RJ15, Cond.code yJ15_checkIndex_7cf53 cJ15_checkIndex_7cf53 2 (some .int), Cond.methodLink RJ15 105 yJ3_checkIndex_8e157, Cond.static yJ3_checkIndex_8e157, Cond.initialized RJ3, Cond.code yJ3_checkIndex_8e157 cJ3_checkIndex_8e157 3 (some .int), Cond.methodLink RJx4a65c 123 yJx4a65c_elementData_915e3, Cond.instanceMethod yJx4a65c_elementData_915e3, Cond.selects RJx4a65c yJx4a65c_elementData_915e3 yJx4a65c_elementData_915e3, Cond.code yJx4a65c_elementData_915e3 cJx4a65c_elementData_915e3 2 (some (.object "java/lang/Object")), Cond.fieldLink RJx4a65c 9 "java/util/ArrayList" "elementData" "[Ljava/lang/Object;", Cond.methodLink RX4 106 yX0_init]
def wsL_allow_r3 : List Cond := [Cond.instanceMethod yX0_init, Cond.code yX0_init cX0_init 5 none, Cond.methodLink RX0 3 objectInit, Cond.instanceMethod objectInit, Cond.code objectInit ⟨#[0xb1]⟩ 1 none, Cond.fieldLink RX0 9 "ShareMover$Entry" "who" "I", Cond.fieldLink RX0 15 "ShareMover$Entry" "allows" "Z", Cond.fieldLink RX0 19 "ShareMover$Entry" "rights" "I", Cond.fieldLink RX0 22 "ShareMover$Entry" "scope" "I", Cond.methodLink RX4 35 yJx4a65c_add_9ea2d, Cond.instanceMethod yJx4a65c_add_9ea2d, Cond.selects RJx4a65c yJx4a65c_add_9ea2d yJx4a65c_add_9ea2d, Cond.code yJx4a65c_add_9ea2d cJx4a65c_add_9ea2d 2 (some .boolean), Cond.fieldLink RJx4a65c 63 "java/util/ArrayList" "modCount" "I", Cond.sameField "java/util/ArrayList" "java/util/AbstractList" "modCount" "I", Cond.methodLink RJx4a65c 131 yJx4a65c_add_72be8, Cond.instanceMethod yJx4a65c_add_72be8, Cond.selects RJx4a65c yJx4a65c_add_72be8 yJx4a65c_add_72be8, Cond.code yJx4a65c_add_72be8 cJx4a65c_add_72be8 4 none, Cond.methodLink RJx4a65c 129 yJx4a65c_grow_d5877, Cond.instanceMethod yJx4a65c_grow_d5877, Cond.selects RJx4a65c yJx4a65c_grow_d5877 yJx4a65c_grow_d5877, Cond.code yJx4a65c_grow_d5877 cJx4a65c_grow_d5877 1 (some (.array (.object "java/lang/Object"))), Cond.methodLink RJx4a65c 69 yJx4a65c_grow_92f84]
def wsL_allow_r4 : List Cond := [Cond.instanceMethod yJx4a65c_grow_92f84, Cond.selects RJx4a65c yJx4a65c_grow_92f84 yJx4a65c_grow_92f84, Cond.code yJx4a65c_grow_92f84 cJx4a65c_grow_92f84 4 (some (.array (.object "java/lang/Object"))), Cond.fieldLink RJx4a65c 39 "java/util/ArrayList" "DEFAULTCAPACITY_EMPTY_ELEMENTDATA" "[Ljava/lang/Object;", Cond.methodLink RJx4a65c 79 Lib.Math.max.name, Cond.static Lib.Math.max.name, Cond.initialized "java/lang/Math", Cond.code Lib.Math.max.name Lib.Math.max.code 2 (some .int), Cond.classLink RJx4a65c 7 "java/lang/Object", Cond.methodLink RJx4a65c 73 yJ8_newLength_cabcc, Cond.static yJ8_newLength_cabcc, Cond.initialized RJ8, Cond.code yJ8_newLength_cabcc cJ8_newLength_cabcc 4 (some .int), Cond.methodLink RJ8 194 Lib.Math.max.name, Cond.constant RJ8 200 (2147483639), Cond.methodLink RJ8 201 yJ8_hugeLength_7cf53, Cond.static yJ8_hugeLength_7cf53, Cond.code yJ8_hugeLength_7cf53 cJ8_hugeLength_7cf53 3 (some .int), Cond.methodLink RJx4a65c 66 yJ7_copyOf_1904c, Cond.static yJ7_copyOf_1904c, Cond.initialized RJ7, Cond.code yJ7_copyOf_1904c cJ7_copyOf_1904c 2 (some (.array (.object "java/lang/Object"))), Cond.methodLink RJ7 86 ⟨"java/lang/Object", "getClass", "()Ljava/lang/Class;"⟩, Cond.selects "[Ljava/lang/Object;" ⟨"java/lang/Object", "getClass", "()Ljava/lang/Class;"⟩ ⟨"java/lang/Object", "getClass", "()Ljava/lang/Class;"⟩]
def wsL_allow_r5 : List Cond := [Cond.instanceMethod ⟨"java/lang/Object", "getClass", "()Ljava/lang/Class;"⟩, Cond.native ⟨"java/lang/Object", "getClass", "()Ljava/lang/Class;"⟩, Cond.methodLink RJ7 300 yJ7_copyOf_6403c, Cond.static yJ7_copyOf_6403c, Cond.code yJ7_copyOf_6403c cJ7_copyOf_6403c 4 (some (.array (.object "java/lang/Object"))), Cond.classLink RJ7 110 "[Ljava/lang/Object;", Cond.classLink RJ7 2 "java/lang/Object", Cond.methodLink RJ7 304 Lib.Math.min.name, Cond.static Lib.Math.min.name, Cond.code Lib.Math.min.name Lib.Math.min.code 2 (some .int), Cond.methodLink RJ7 150 arraycopyName, Cond.native arraycopyName, Cond.static arraycopyName, Cond.initialized "java/lang/System"]
def wsL_allow : List Cond := .codeWith yL_allow cL_allow 8 (some .int) [(0, 16, 19, 13), (0, 16, 23, 40), (0, 16, 27, 19)] :: ((wsL_allow_r1 ++ (wsL_allow_r2 ++ (wsL_allow_r3 ++ (wsL_allow_r4 ++ wsL_allow_r5)))) ++ wsX10 ++ wsX00 ++ wsX40 ++ wsJx4a65c0 ++ (vx_atS RX4 93 "java/lang/IndexOutOfBoundsException" ["java/lang/RuntimeException", "java/lang/Exception"]).filter goodWord ++ (vx_atS RX4 98 "java/lang/IllegalArgumentException" ["java/lang/RuntimeException", "java/lang/Exception"]).filter goodWord ++ (vx_atS RX4 62 "java/lang/IllegalStateException" ["java/lang/RuntimeException", "java/lang/Exception"]).filter goodWord)
def wsL_drop_r1 : List Cond := [Cond.classLink RL 13 "java/lang/IndexOutOfBoundsException", Cond.methodLink RL 42 yX4_drop, Cond.instanceMethod yX4_drop, Cond.selects RX4 yX4_drop yX4_drop, Cond.initialized RX4, Cond.code yX4_drop cX4_drop 4 (some .int), Cond.classLink RX4 89 "java/lang/IndexOutOfBoundsException", Cond.initialized "java/lang/IndexOutOfBoundsException", Cond.fieldLink RX4 99 "ShareMover$Folder" "row" "Ljava/util/ArrayList;", Cond.classLink RX4 104 "ShareMover$Entry", Cond.fieldLink RX4 115 "ShareMover$Entry" "rights" "I", Cond.methodLink RX4 71 yX4_folderAt, Cond.instanceMethod yX4_folderAt, Cond.selects RX4 yX4_folderAt yX4_folderAt, Cond.code yX4_folderAt cX4_folderAt 2 (some (.object "ShareMover$Folder")), Cond.fieldLink RX4 19 "ShareMover" "tree" "Ljava/util/ArrayList;", Cond.classLink RX4 30 "ShareMover$Folder", Cond.methodLink RX4 75 yJx4a65c_size_8abf5, Cond.instanceMethod yJx4a65c_size_8abf5, Cond.selects RJx4a65c yJx4a65c_size_8abf5 yJx4a65c_size_8abf5, Cond.initialized RJx4a65c, Cond.code yJx4a65c_size_8abf5 cJx4a65c_size_8abf5 1 (some .int), Cond.fieldLink RJx4a65c 48 "java/util/ArrayList" "size" "I", Cond.methodLink RX4 155 yJx4a65c_get_915e3]
def wsL_drop_r2 : List Cond := [Cond.instanceMethod yJx4a65c_get_915e3, Cond.selects RJx4a65c yJx4a65c_get_915e3 yJx4a65c_get_915e3, Cond.code yJx4a65c_get_915e3 cJx4a65c_get_915e3 2 (some (.object "java/lang/Object")), Cond.methodLink RJx4a65c 118 yJ15_checkIndex_7cf53, Cond.static yJ15_checkIndex_7cf53, Cond.initialized RJ15, Cond.code yJ15_checkIndex_7cf53 cJ15_checkIndex_7cf53 2 (some .int), Cond.methodLink RJ15 105 yJ3_checkIndex_8e157, Cond.static yJ3_checkIndex_8e157, Cond.initialized RJ3, Cond.code yJ3_checkIndex_8e157 cJ3_checkIndex_8e157 3 (some .int), Cond.methodLink RJx4a65c 123 yJx4a65c_elementData_915e3, Cond.instanceMethod yJx4a65c_elementData_915e3, Cond.selects RJx4a65c yJx4a65c_elementData_915e3 yJx4a65c_elementData_915e3, Cond.code yJx4a65c_elementData_915e3 cJx4a65c_elementData_915e3 2 (some (.object "java/lang/Object")), Cond.fieldLink RJx4a65c 9 "java/util/ArrayList" "elementData" "[Ljava/lang/Object;", Cond.methodLink RX4 111 yJx4a65c_remove_915e3, Cond.instanceMethod yJx4a65c_remove_915e3, Cond.selects RJx4a65c yJx4a65c_remove_915e3 yJx4a65c_remove_915e3, Cond.code yJx4a65c_remove_915e3 cJx4a65c_remove_915e3 4 (some (.object "java/lang/Object")), Cond.methodLink RJx4a65c 144 yJx4a65c_fastRemove_b59b0, Cond.instanceMethod yJx4a65c_fastRemove_b59b0, Cond.selects RJx4a65c yJx4a65c_fastRemove_b59b0 yJx4a65c_fastRemove_b59b0, Cond.code yJx4a65c_fastRemove_b59b0 cJx4a65c_fastRemove_b59b0 4 none]
def wsL_drop_r3 : List Cond := [Cond.fieldLink RJx4a65c 63 "java/util/ArrayList" "modCount" "I", Cond.sameField "java/util/ArrayList" "java/util/AbstractList" "modCount" "I", Cond.methodLink RJx4a65c 112 arraycopyName, Cond.native arraycopyName, Cond.static arraycopyName, Cond.initialized "java/lang/System"]
def wsL_drop : List Cond := .codeWith yL_drop cL_drop 5 (some .int) [(0, 10, 13, 13)] :: ((wsL_drop_r1 ++ (wsL_drop_r2 ++ wsL_drop_r3)) ++ wsX10 ++ wsX00 ++ wsX40 ++ wsJx4a65c0 ++ (vx_atS RX4 93 "java/lang/IndexOutOfBoundsException" ["java/lang/RuntimeException", "java/lang/Exception"]).filter goodWord)
def wsL_rights_r1 : List Cond := [Cond.classLink RL 13 "java/lang/IndexOutOfBoundsException", Cond.methodLink RL 45 yX4_rights, Cond.instanceMethod yX4_rights, Cond.selects RX4 yX4_rights yX4_rights, Cond.initialized RX4, Cond.code yX4_rights cX4_rights 3 (some .int), Cond.methodLink RX4 43 yX4_refuseNoPerson, Cond.static yX4_refuseNoPerson, Cond.code yX4_refuseNoPerson cX4_refuseNoPerson 1 none, Cond.classLink RX4 89 "java/lang/IndexOutOfBoundsException", Cond.initialized "java/lang/IndexOutOfBoundsException", Cond.methodLink RX4 71 yX4_folderAt, Cond.instanceMethod yX4_folderAt, Cond.selects RX4 yX4_folderAt yX4_folderAt, Cond.code yX4_folderAt cX4_folderAt 2 (some (.object "ShareMover$Folder")), Cond.fieldLink RX4 19 "ShareMover" "tree" "Ljava/util/ArrayList;", Cond.classLink RX4 30 "ShareMover$Folder", Cond.methodLink RX4 75 yJx4a65c_size_8abf5, Cond.instanceMethod yJx4a65c_size_8abf5, Cond.selects RJx4a65c yJx4a65c_size_8abf5 yJx4a65c_size_8abf5, Cond.initialized RJx4a65c, Cond.code yJx4a65c_size_8abf5 cJx4a65c_size_8abf5 1 (some .int), Cond.fieldLink RJx4a65c 48 "java/util/ArrayList" "size" "I", Cond.methodLink RX4 155 yJx4a65c_get_915e3]
def wsL_rights_r2 : List Cond := [Cond.instanceMethod yJx4a65c_get_915e3, Cond.selects RJx4a65c yJx4a65c_get_915e3 yJx4a65c_get_915e3, Cond.code yJx4a65c_get_915e3 cJx4a65c_get_915e3 2 (some (.object "java/lang/Object")), Cond.methodLink RJx4a65c 118 yJ15_checkIndex_7cf53, Cond.static yJ15_checkIndex_7cf53, Cond.initialized RJ15, Cond.code yJ15_checkIndex_7cf53 cJ15_checkIndex_7cf53 2 (some .int), Cond.methodLink RJ15 105 yJ3_checkIndex_8e157, Cond.static yJ3_checkIndex_8e157, Cond.initialized RJ3, Cond.code yJ3_checkIndex_8e157 cJ3_checkIndex_8e157 3 (some .int), Cond.methodLink RJx4a65c 123 yJx4a65c_elementData_915e3, Cond.instanceMethod yJx4a65c_elementData_915e3, Cond.selects RJx4a65c yJx4a65c_elementData_915e3 yJx4a65c_elementData_915e3, Cond.code yJx4a65c_elementData_915e3 cJx4a65c_elementData_915e3 2 (some (.object "java/lang/Object")), Cond.fieldLink RJx4a65c 9 "java/util/ArrayList" "elementData" "[Ljava/lang/Object;", Cond.methodLink RX4 118 yX4_rightsByEntries, Cond.instanceMethod yX4_rightsByEntries, Cond.selects RX4 yX4_rightsByEntries yX4_rightsByEntries, Cond.code yX4_rightsByEntries cX4_rightsByEntries 8 (some .int), Cond.fieldLink RX4 81 "ShareMover$Folder" "owner" "I", Cond.fieldLink RX4 99 "ShareMover$Folder" "row" "Ljava/util/ArrayList;", Cond.classLink RX4 104 "ShareMover$Entry", Cond.fieldLink RX4 193 "ShareMover$Entry" "allows" "Z"]
def wsL_rights_r3 : List Cond := [Cond.fieldLink RX4 115 "ShareMover$Entry" "rights" "I", Cond.methodLink RX4 185 yX0_counts, Cond.instanceMethod yX0_counts, Cond.selects RX0 yX0_counts yX0_counts, Cond.initialized RX0, Cond.code yX0_counts cX0_counts 2 (some .boolean), Cond.fieldLink RX0 22 "ShareMover$Entry" "scope" "I", Cond.methodLink RX4 189 yX4_isFor, Cond.instanceMethod yX4_isFor, Cond.selects RX4 yX4_isFor yX4_isFor, Cond.code yX4_isFor cX4_isFor 3 (some .boolean), Cond.fieldLink RX4 182 "ShareMover$Entry" "who" "I", Cond.fieldLink RX4 12 "ShareMover" "groups" "LShareMover$Groups;", Cond.methodLink RX4 68 yX2_everyoneIn, Cond.instanceMethod yX2_everyoneIn, Cond.selects RX2 yX2_everyoneIn yX2_everyoneIn, Cond.initialized RX2, Cond.code yX2_everyoneIn cX2_everyoneIn 2 (some .int), Cond.fieldLink RX2 18 "ShareMover$Groups" "everyone" "[I", Cond.methodLink RX4 54 yX4_contains, Cond.static yX4_contains, Cond.code yX4_contains cX4_contains 2 (some .boolean), Cond.methodLink RX4 196 yX1_inheritsFrom, Cond.instanceMethod yX1_inheritsFrom]
def wsL_rights_r4 : List Cond := [Cond.selects RX1 yX1_inheritsFrom yX1_inheritsFrom, Cond.initialized RX1, Cond.code yX1_inheritsFrom cX1_inheritsFrom 1 (some (.object "ShareMover$Folder")), Cond.fieldLink RX1 22 "ShareMover$Folder" "inherits" "Z", Cond.fieldLink RX1 32 "ShareMover$Folder" "parent" "LShareMover$Folder;"]
def wsL_rights : List Cond := .codeWith yL_rights cL_rights 5 (some .int) [(0, 10, 13, 13)] :: ((wsL_rights_r1 ++ (wsL_rights_r2 ++ (wsL_rights_r3 ++ wsL_rights_r4))) ++ wsX40 ++ wsJx4a65c0 ++ wsX10 ++ wsX00 ++ wsX20 ++ (vx_atS RX4 93 "java/lang/IndexOutOfBoundsException" ["java/lang/RuntimeException", "java/lang/Exception"]).filter goodWord)
def wsL_rightsBackwards_r1 : List Cond := [Cond.classLink RL 13 "java/lang/IndexOutOfBoundsException", Cond.methodLink RL 48 yX4_rightsBackwards, Cond.instanceMethod yX4_rightsBackwards, Cond.selects RX4 yX4_rightsBackwards yX4_rightsBackwards, Cond.initialized RX4, Cond.code yX4_rightsBackwards cX4_rightsBackwards 3 (some .int), Cond.methodLink RX4 43 yX4_refuseNoPerson, Cond.static yX4_refuseNoPerson, Cond.code yX4_refuseNoPerson cX4_refuseNoPerson 1 none, Cond.classLink RX4 89 "java/lang/IndexOutOfBoundsException", Cond.initialized "java/lang/IndexOutOfBoundsException", Cond.methodLink RX4 71 yX4_folderAt, Cond.instanceMethod yX4_folderAt, Cond.selects RX4 yX4_folderAt yX4_folderAt, Cond.code yX4_folderAt cX4_folderAt 2 (some (.object "ShareMover$Folder")), Cond.fieldLink RX4 19 "ShareMover" "tree" "Ljava/util/ArrayList;", Cond.classLink RX4 30 "ShareMover$Folder", Cond.methodLink RX4 75 yJx4a65c_size_8abf5, Cond.instanceMethod yJx4a65c_size_8abf5, Cond.selects RJx4a65c yJx4a65c_size_8abf5 yJx4a65c_size_8abf5, Cond.initialized RJx4a65c, Cond.code yJx4a65c_size_8abf5 cJx4a65c_size_8abf5 1 (some .int), Cond.fieldLink RJx4a65c 48 "java/util/ArrayList" "size" "I", Cond.methodLink RX4 155 yJx4a65c_get_915e3]
def wsL_rightsBackwards_r2 : List Cond := [Cond.instanceMethod yJx4a65c_get_915e3, Cond.selects RJx4a65c yJx4a65c_get_915e3 yJx4a65c_get_915e3, Cond.code yJx4a65c_get_915e3 cJx4a65c_get_915e3 2 (some (.object "java/lang/Object")), Cond.methodLink RJx4a65c 118 yJ15_checkIndex_7cf53, Cond.static yJ15_checkIndex_7cf53, Cond.initialized RJ15, Cond.code yJ15_checkIndex_7cf53 cJ15_checkIndex_7cf53 2 (some .int), Cond.methodLink RJ15 105 yJ3_checkIndex_8e157, Cond.static yJ3_checkIndex_8e157, Cond.initialized RJ3, Cond.code yJ3_checkIndex_8e157 cJ3_checkIndex_8e157 3 (some .int), Cond.methodLink RJx4a65c 123 yJx4a65c_elementData_915e3, Cond.instanceMethod yJx4a65c_elementData_915e3, Cond.selects RJx4a65c yJx4a65c_elementData_915e3 yJx4a65c_elementData_915e3, Cond.code yJx4a65c_elementData_915e3 cJx4a65c_elementData_915e3 2 (some (.object "java/lang/Object")), Cond.fieldLink RJx4a65c 9 "java/util/ArrayList" "elementData" "[Ljava/lang/Object;", Cond.methodLink RX4 122 yX4_rightsByOverruling, Cond.instanceMethod yX4_rightsByOverruling, Cond.selects RX4 yX4_rightsByOverruling yX4_rightsByOverruling, Cond.code yX4_rightsByOverruling cX4_rightsByOverruling 8 (some .int), Cond.fieldLink RX4 81 "ShareMover$Folder" "owner" "I", Cond.fieldLink RX4 99 "ShareMover$Folder" "row" "Ljava/util/ArrayList;", Cond.classLink RX4 104 "ShareMover$Entry", Cond.fieldLink RX4 193 "ShareMover$Entry" "allows" "Z"]
def wsL_rightsBackwards_r3 : List Cond := [Cond.fieldLink RX4 115 "ShareMover$Entry" "rights" "I", Cond.methodLink RX4 200 yX1_levelsInherited, Cond.instanceMethod yX1_levelsInherited, Cond.selects RX1 yX1_levelsInherited yX1_levelsInherited, Cond.initialized RX1, Cond.code yX1_levelsInherited cX1_levelsInherited 3 (some .int), Cond.methodLink RX1 40 yX1_inheritsFrom, Cond.instanceMethod yX1_inheritsFrom, Cond.selects RX1 yX1_inheritsFrom yX1_inheritsFrom, Cond.code yX1_inheritsFrom cX1_inheritsFrom 1 (some (.object "ShareMover$Folder")), Cond.fieldLink RX1 22 "ShareMover$Folder" "inherits" "Z", Cond.fieldLink RX1 32 "ShareMover$Folder" "parent" "LShareMover$Folder;", Cond.methodLink RX4 203 yX1_above, Cond.instanceMethod yX1_above, Cond.selects RX1 yX1_above yX1_above, Cond.code yX1_above cX1_above 4 (some (.object "ShareMover$Folder")), Cond.methodLink RX4 185 yX0_counts, Cond.instanceMethod yX0_counts, Cond.selects RX0 yX0_counts yX0_counts, Cond.initialized RX0, Cond.code yX0_counts cX0_counts 2 (some .boolean), Cond.fieldLink RX0 22 "ShareMover$Entry" "scope" "I", Cond.methodLink RX4 189 yX4_isFor, Cond.instanceMethod yX4_isFor]
def wsL_rightsBackwards_r4 : List Cond := [Cond.selects RX4 yX4_isFor yX4_isFor, Cond.code yX4_isFor cX4_isFor 3 (some .boolean), Cond.fieldLink RX4 182 "ShareMover$Entry" "who" "I", Cond.fieldLink RX4 12 "ShareMover" "groups" "LShareMover$Groups;", Cond.methodLink RX4 68 yX2_everyoneIn, Cond.instanceMethod yX2_everyoneIn, Cond.selects RX2 yX2_everyoneIn yX2_everyoneIn, Cond.initialized RX2, Cond.code yX2_everyoneIn cX2_everyoneIn 2 (some .int), Cond.fieldLink RX2 18 "ShareMover$Groups" "everyone" "[I", Cond.methodLink RX4 54 yX4_contains, Cond.static yX4_contains, Cond.code yX4_contains cX4_contains 2 (some .boolean)]
def wsL_rightsBackwards : List Cond := .codeWith yL_rightsBackwards cL_rightsBackwards 5 (some .int) [(0, 10, 13, 13)] :: ((wsL_rightsBackwards_r1 ++ (wsL_rightsBackwards_r2 ++ (wsL_rightsBackwards_r3 ++ wsL_rightsBackwards_r4))) ++ wsX40 ++ wsJx4a65c0 ++ wsX10 ++ wsX00 ++ wsX20 ++ (vx_atS RX4 93 "java/lang/IndexOutOfBoundsException" ["java/lang/RuntimeException", "java/lang/Exception"]).filter goodWord)
def wsL_groupOf_r1 : List Cond := [Cond.classLink RL 13 "java/lang/IndexOutOfBoundsException", Cond.methodLink RL 51 yX4_groupOf, Cond.instanceMethod yX4_groupOf, Cond.selects RX4 yX4_groupOf yX4_groupOf, Cond.initialized RX4, Cond.code yX4_groupOf cX4_groupOf 2 (some .int), Cond.fieldLink RX4 129 "ShareMover$Mapping" "group" "I", Cond.methodLink RX4 71 yX4_folderAt, Cond.instanceMethod yX4_folderAt, Cond.selects RX4 yX4_folderAt yX4_folderAt, Cond.code yX4_folderAt cX4_folderAt 2 (some (.object "ShareMover$Folder")), Cond.classLink RX4 89 "java/lang/IndexOutOfBoundsException", Cond.initialized "java/lang/IndexOutOfBoundsException", Cond.fieldLink RX4 19 "ShareMover" "tree" "Ljava/util/ArrayList;", Cond.classLink RX4 30 "ShareMover$Folder", Cond.methodLink RX4 75 yJx4a65c_size_8abf5, Cond.instanceMethod yJx4a65c_size_8abf5, Cond.selects RJx4a65c yJx4a65c_size_8abf5 yJx4a65c_size_8abf5, Cond.initialized RJx4a65c, Cond.code yJx4a65c_size_8abf5 cJx4a65c_size_8abf5 1 (some .int), Cond.fieldLink RJx4a65c 48 "java/util/ArrayList" "size" "I", Cond.methodLink RX4 155 yJx4a65c_get_915e3, Cond.instanceMethod yJx4a65c_get_915e3, Cond.selects RJx4a65c yJx4a65c_get_915e3 yJx4a65c_get_915e3]
def wsL_groupOf_r2 : List Cond := [Cond.code yJx4a65c_get_915e3 cJx4a65c_get_915e3 2 (some (.object "java/lang/Object")), Cond.methodLink RJx4a65c 118 yJ15_checkIndex_7cf53, Cond.static yJ15_checkIndex_7cf53, Cond.initialized RJ15, Cond.code yJ15_checkIndex_7cf53 cJ15_checkIndex_7cf53 2 (some .int), Cond.methodLink RJ15 105 yJ3_checkIndex_8e157, Cond.static yJ3_checkIndex_8e157, Cond.initialized RJ3, Cond.code yJ3_checkIndex_8e157 cJ3_checkIndex_8e157 3 (some .int), Cond.methodLink RJx4a65c 123 yJx4a65c_elementData_915e3, Cond.instanceMethod yJx4a65c_elementData_915e3, Cond.selects RJx4a65c yJx4a65c_elementData_915e3 yJx4a65c_elementData_915e3, Cond.code yJx4a65c_elementData_915e3 cJx4a65c_elementData_915e3 2 (some (.object "java/lang/Object")), Cond.fieldLink RJx4a65c 9 "java/util/ArrayList" "elementData" "[Ljava/lang/Object;", Cond.methodLink RX4 125 yX4_mappingOf, Cond.instanceMethod yX4_mappingOf, Cond.selects RX4 yX4_mappingOf yX4_mappingOf, Cond.code yX4_mappingOf cX4_mappingOf 5 (some (.object "ShareMover$Mapping")), Cond.fieldLink RX4 26 "ShareMover" "mapping" "LShareMover$Mapping;", Cond.fieldLink RX4 145 "ShareMover$Mapping" "lost" "I", Cond.methodLink RX4 148 yX4_findHeld, Cond.instanceMethod yX4_findHeld, Cond.selects RX4 yX4_findHeld yX4_findHeld, Cond.code yX4_findHeld cX4_findHeld 3 none]
def wsL_groupOf_r3 : List Cond := [Cond.fieldLink RX4 209 "ShareMover$Mapping" "held" "[I", Cond.methodLink RX4 118 yX4_rightsByEntries, Cond.instanceMethod yX4_rightsByEntries, Cond.selects RX4 yX4_rightsByEntries yX4_rightsByEntries, Cond.code yX4_rightsByEntries cX4_rightsByEntries 8 (some .int), Cond.fieldLink RX4 81 "ShareMover$Folder" "owner" "I", Cond.fieldLink RX4 99 "ShareMover$Folder" "row" "Ljava/util/ArrayList;", Cond.classLink RX4 104 "ShareMover$Entry", Cond.fieldLink RX4 193 "ShareMover$Entry" "allows" "Z", Cond.fieldLink RX4 115 "ShareMover$Entry" "rights" "I", Cond.methodLink RX4 185 yX0_counts, Cond.instanceMethod yX0_counts, Cond.selects RX0 yX0_counts yX0_counts, Cond.initialized RX0, Cond.code yX0_counts cX0_counts 2 (some .boolean), Cond.fieldLink RX0 22 "ShareMover$Entry" "scope" "I", Cond.methodLink RX4 189 yX4_isFor, Cond.instanceMethod yX4_isFor, Cond.selects RX4 yX4_isFor yX4_isFor, Cond.code yX4_isFor cX4_isFor 3 (some .boolean), Cond.fieldLink RX4 182 "ShareMover$Entry" "who" "I", Cond.fieldLink RX4 12 "ShareMover" "groups" "LShareMover$Groups;", Cond.methodLink RX4 68 yX2_everyoneIn, Cond.instanceMethod yX2_everyoneIn]
def wsL_groupOf_r4 : List Cond := [Cond.selects RX2 yX2_everyoneIn yX2_everyoneIn, Cond.initialized RX2, Cond.code yX2_everyoneIn cX2_everyoneIn 2 (some .int), Cond.fieldLink RX2 18 "ShareMover$Groups" "everyone" "[I", Cond.methodLink RX4 54 yX4_contains, Cond.static yX4_contains, Cond.code yX4_contains cX4_contains 2 (some .boolean), Cond.methodLink RX4 196 yX1_inheritsFrom, Cond.instanceMethod yX1_inheritsFrom, Cond.selects RX1 yX1_inheritsFrom yX1_inheritsFrom, Cond.initialized RX1, Cond.code yX1_inheritsFrom cX1_inheritsFrom 1 (some (.object "ShareMover$Folder")), Cond.fieldLink RX1 22 "ShareMover$Folder" "inherits" "Z", Cond.fieldLink RX1 32 "ShareMover$Folder" "parent" "LShareMover$Folder;", Cond.methodLink RX4 152 yX4_mapWith, Cond.instanceMethod yX4_mapWith, Cond.selects RX4 yX4_mapWith yX4_mapWith, Cond.code yX4_mapWith cX4_mapWith 4 none, Cond.methodLink RX4 212 yX3_make, Cond.instanceMethod yX3_make, Cond.selects RX3 yX3_make yX3_make, Cond.initialized RX3, Cond.code yX3_make cX3_make 5 none, Cond.fieldLink RX3 18 "ShareMover$Mapping" "group" "I"]
def wsL_groupOf_r5 : List Cond := [Cond.fieldLink RX3 28 "ShareMover$Mapping" "namedPersons" "I", Cond.fieldLink RX3 31 "ShareMover$Mapping" "lost" "I", Cond.methodLink RX3 34 yX3_findBits, Cond.instanceMethod yX3_findBits, Cond.selects RX3 yX3_findBits yX3_findBits, Cond.code yX3_findBits cX3_findBits 5 none, Cond.fieldLink RX3 22 "ShareMover$Mapping" "groupBits" "I", Cond.fieldLink RX3 25 "ShareMover$Mapping" "otherBits" "I", Cond.fieldLink RX3 15 "ShareMover$Mapping" "given" "[I", Cond.fieldLink RX3 9 "ShareMover$Mapping" "held" "[I", Cond.methodLink RX3 42 yX3_sharedBy, Cond.instanceMethod yX3_sharedBy, Cond.selects RX3 yX3_sharedBy yX3_sharedBy, Cond.code yX3_sharedBy cX3_sharedBy 4 (some .int), Cond.methodLink RX3 50 yX3_lossOf, Cond.instanceMethod yX3_lossOf, Cond.selects RX3 yX3_lossOf yX3_lossOf, Cond.code yX3_lossOf cX3_lossOf 2 (some .int), Cond.methodLink RX3 53 yJ6_bitCount_0f7a4, Cond.static yJ6_bitCount_0f7a4, Cond.initialized RJ6, Cond.code yJ6_bitCount_0f7a4 cJ6_bitCount_0f7a4 1 (some .int), Cond.constant RJ6 265 (1431655765), Cond.constant RJ6 266 (858993459)]
def wsL_groupOf_r6 : List Cond := [Cond.constant RJ6 267 (252645135), Cond.methodLink RX3 38 yX3_greatestLoser, Cond.instanceMethod yX3_greatestLoser, Cond.selects RX3 yX3_greatestLoser yX3_greatestLoser, Cond.code yX3_greatestLoser cX3_greatestLoser 3 (some .int)]
def wsL_groupOf : List Cond := .codeWith yL_groupOf cL_groupOf 4 (some .int) [(0, 9, 12, 13)] :: ((wsL_groupOf_r1 ++ (wsL_groupOf_r2 ++ (wsL_groupOf_r3 ++ (wsL_groupOf_r4 ++ (wsL_groupOf_r5 ++ wsL_groupOf_r6))))) ++ wsX30 ++ wsX40 ++ wsJx4a65c0 ++ wsX10 ++ wsX00 ++ wsX20 ++ (vx_atS RX4 93 "java/lang/IndexOutOfBoundsException" ["java/lang/RuntimeException", "java/lang/Exception"]).filter goodWord)
def wsL_bits_r1 : List Cond := [Cond.classLink RL 13 "java/lang/IndexOutOfBoundsException", Cond.methodLink RL 54 yX4_bits, Cond.instanceMethod yX4_bits, Cond.selects RX4 yX4_bits yX4_bits, Cond.initialized RX4, Cond.code yX4_bits cX4_bits 3 (some .int), Cond.fieldLink RX4 132 "ShareMover$Mapping" "groupBits" "I", Cond.fieldLink RX4 135 "ShareMover$Mapping" "otherBits" "I", Cond.methodLink RX4 71 yX4_folderAt, Cond.instanceMethod yX4_folderAt, Cond.selects RX4 yX4_folderAt yX4_folderAt, Cond.code yX4_folderAt cX4_folderAt 2 (some (.object "ShareMover$Folder")), Cond.classLink RX4 89 "java/lang/IndexOutOfBoundsException", Cond.initialized "java/lang/IndexOutOfBoundsException", Cond.fieldLink RX4 19 "ShareMover" "tree" "Ljava/util/ArrayList;", Cond.classLink RX4 30 "ShareMover$Folder", Cond.methodLink RX4 75 yJx4a65c_size_8abf5, Cond.instanceMethod yJx4a65c_size_8abf5, Cond.selects RJx4a65c yJx4a65c_size_8abf5 yJx4a65c_size_8abf5, Cond.initialized RJx4a65c, Cond.code yJx4a65c_size_8abf5 cJx4a65c_size_8abf5 1 (some .int), Cond.fieldLink RJx4a65c 48 "java/util/ArrayList" "size" "I", Cond.methodLink RX4 155 yJx4a65c_get_915e3, Cond.instanceMethod yJx4a65c_get_915e3]
def wsL_bits_r2 : List Cond := [Cond.selects RJx4a65c yJx4a65c_get_915e3 yJx4a65c_get_915e3, Cond.code yJx4a65c_get_915e3 cJx4a65c_get_915e3 2 (some (.object "java/lang/Object")), Cond.methodLink RJx4a65c 118 yJ15_checkIndex_7cf53, Cond.static yJ15_checkIndex_7cf53, Cond.initialized RJ15, Cond.code yJ15_checkIndex_7cf53 cJ15_checkIndex_7cf53 2 (some .int), Cond.methodLink RJ15 105 yJ3_checkIndex_8e157, Cond.static yJ3_checkIndex_8e157, Cond.initialized RJ3, Cond.code yJ3_checkIndex_8e157 cJ3_checkIndex_8e157 3 (some .int), Cond.methodLink RJx4a65c 123 yJx4a65c_elementData_915e3, Cond.instanceMethod yJx4a65c_elementData_915e3, Cond.selects RJx4a65c yJx4a65c_elementData_915e3 yJx4a65c_elementData_915e3, Cond.code yJx4a65c_elementData_915e3 cJx4a65c_elementData_915e3 2 (some (.object "java/lang/Object")), Cond.fieldLink RJx4a65c 9 "java/util/ArrayList" "elementData" "[Ljava/lang/Object;", Cond.methodLink RX4 125 yX4_mappingOf, Cond.instanceMethod yX4_mappingOf, Cond.selects RX4 yX4_mappingOf yX4_mappingOf, Cond.code yX4_mappingOf cX4_mappingOf 5 (some (.object "ShareMover$Mapping")), Cond.fieldLink RX4 26 "ShareMover" "mapping" "LShareMover$Mapping;", Cond.fieldLink RX4 145 "ShareMover$Mapping" "lost" "I", Cond.methodLink RX4 148 yX4_findHeld, Cond.instanceMethod yX4_findHeld, Cond.selects RX4 yX4_findHeld yX4_findHeld]
def wsL_bits_r3 : List Cond := [Cond.code yX4_findHeld cX4_findHeld 3 none, Cond.fieldLink RX4 209 "ShareMover$Mapping" "held" "[I", Cond.methodLink RX4 118 yX4_rightsByEntries, Cond.instanceMethod yX4_rightsByEntries, Cond.selects RX4 yX4_rightsByEntries yX4_rightsByEntries, Cond.code yX4_rightsByEntries cX4_rightsByEntries 8 (some .int), Cond.fieldLink RX4 81 "ShareMover$Folder" "owner" "I", Cond.fieldLink RX4 99 "ShareMover$Folder" "row" "Ljava/util/ArrayList;", Cond.classLink RX4 104 "ShareMover$Entry", Cond.fieldLink RX4 193 "ShareMover$Entry" "allows" "Z", Cond.fieldLink RX4 115 "ShareMover$Entry" "rights" "I", Cond.methodLink RX4 185 yX0_counts, Cond.instanceMethod yX0_counts, Cond.selects RX0 yX0_counts yX0_counts, Cond.initialized RX0, Cond.code yX0_counts cX0_counts 2 (some .boolean), Cond.fieldLink RX0 22 "ShareMover$Entry" "scope" "I", Cond.methodLink RX4 189 yX4_isFor, Cond.instanceMethod yX4_isFor, Cond.selects RX4 yX4_isFor yX4_isFor, Cond.code yX4_isFor cX4_isFor 3 (some .boolean), Cond.fieldLink RX4 182 "ShareMover$Entry" "who" "I", Cond.fieldLink RX4 12 "ShareMover" "groups" "LShareMover$Groups;", Cond.methodLink RX4 68 yX2_everyoneIn]
def wsL_bits_r4 : List Cond := [Cond.instanceMethod yX2_everyoneIn, Cond.selects RX2 yX2_everyoneIn yX2_everyoneIn, Cond.initialized RX2, Cond.code yX2_everyoneIn cX2_everyoneIn 2 (some .int), Cond.fieldLink RX2 18 "ShareMover$Groups" "everyone" "[I", Cond.methodLink RX4 54 yX4_contains, Cond.static yX4_contains, Cond.code yX4_contains cX4_contains 2 (some .boolean), Cond.methodLink RX4 196 yX1_inheritsFrom, Cond.instanceMethod yX1_inheritsFrom, Cond.selects RX1 yX1_inheritsFrom yX1_inheritsFrom, Cond.initialized RX1, Cond.code yX1_inheritsFrom cX1_inheritsFrom 1 (some (.object "ShareMover$Folder")), Cond.fieldLink RX1 22 "ShareMover$Folder" "inherits" "Z", Cond.fieldLink RX1 32 "ShareMover$Folder" "parent" "LShareMover$Folder;", Cond.methodLink RX4 152 yX4_mapWith, Cond.instanceMethod yX4_mapWith, Cond.selects RX4 yX4_mapWith yX4_mapWith, Cond.code yX4_mapWith cX4_mapWith 4 none, Cond.methodLink RX4 212 yX3_make, Cond.instanceMethod yX3_make, Cond.selects RX3 yX3_make yX3_make, Cond.initialized RX3, Cond.code yX3_make cX3_make 5 none]
def wsL_bits_r5 : List Cond := [Cond.fieldLink RX3 18 "ShareMover$Mapping" "group" "I", Cond.fieldLink RX3 28 "ShareMover$Mapping" "namedPersons" "I", Cond.fieldLink RX3 31 "ShareMover$Mapping" "lost" "I", Cond.methodLink RX3 34 yX3_findBits, Cond.instanceMethod yX3_findBits, Cond.selects RX3 yX3_findBits yX3_findBits, Cond.code yX3_findBits cX3_findBits 5 none, Cond.fieldLink RX3 22 "ShareMover$Mapping" "groupBits" "I", Cond.fieldLink RX3 25 "ShareMover$Mapping" "otherBits" "I", Cond.fieldLink RX3 15 "ShareMover$Mapping" "given" "[I", Cond.fieldLink RX3 9 "ShareMover$Mapping" "held" "[I", Cond.methodLink RX3 42 yX3_sharedBy, Cond.instanceMethod yX3_sharedBy, Cond.selects RX3 yX3_sharedBy yX3_sharedBy, Cond.code yX3_sharedBy cX3_sharedBy 4 (some .int), Cond.methodLink RX3 50 yX3_lossOf, Cond.instanceMethod yX3_lossOf, Cond.selects RX3 yX3_lossOf yX3_lossOf, Cond.code yX3_lossOf cX3_lossOf 2 (some .int), Cond.methodLink RX3 53 yJ6_bitCount_0f7a4, Cond.static yJ6_bitCount_0f7a4, Cond.initialized RJ6, Cond.code yJ6_bitCount_0f7a4 cJ6_bitCount_0f7a4 1 (some .int), Cond.constant RJ6 265 (1431655765)]
def wsL_bits_r6 : List Cond := [Cond.constant RJ6 266 (858993459), Cond.constant RJ6 267 (252645135), Cond.methodLink RX3 38 yX3_greatestLoser, Cond.instanceMethod yX3_greatestLoser, Cond.selects RX3 yX3_greatestLoser yX3_greatestLoser, Cond.code yX3_greatestLoser cX3_greatestLoser 3 (some .int)]
def wsL_bits : List Cond := .codeWith yL_bits cL_bits 4 (some .int) [(0, 9, 12, 13)] :: ((wsL_bits_r1 ++ (wsL_bits_r2 ++ (wsL_bits_r3 ++ (wsL_bits_r4 ++ (wsL_bits_r5 ++ wsL_bits_r6))))) ++ wsX30 ++ wsX40 ++ wsJx4a65c0 ++ wsX10 ++ wsX00 ++ wsX20 ++ (vx_atS RX4 93 "java/lang/IndexOutOfBoundsException" ["java/lang/RuntimeException", "java/lang/Exception"]).filter goodWord)
def wsL_named_r1 : List Cond := [Cond.classLink RL 13 "java/lang/IndexOutOfBoundsException", Cond.methodLink RL 57 yX4_named, Cond.instanceMethod yX4_named, Cond.selects RX4 yX4_named yX4_named, Cond.initialized RX4, Cond.code yX4_named cX4_named 2 (some .int), Cond.fieldLink RX4 138 "ShareMover$Mapping" "namedPersons" "I", Cond.methodLink RX4 71 yX4_folderAt, Cond.instanceMethod yX4_folderAt, Cond.selects RX4 yX4_folderAt yX4_folderAt, Cond.code yX4_folderAt cX4_folderAt 2 (some (.object "ShareMover$Folder")), Cond.classLink RX4 89 "java/lang/IndexOutOfBoundsException", Cond.initialized "java/lang/IndexOutOfBoundsException", Cond.fieldLink RX4 19 "ShareMover" "tree" "Ljava/util/ArrayList;", Cond.classLink RX4 30 "ShareMover$Folder", Cond.methodLink RX4 75 yJx4a65c_size_8abf5, Cond.instanceMethod yJx4a65c_size_8abf5, Cond.selects RJx4a65c yJx4a65c_size_8abf5 yJx4a65c_size_8abf5, Cond.initialized RJx4a65c, Cond.code yJx4a65c_size_8abf5 cJx4a65c_size_8abf5 1 (some .int), Cond.fieldLink RJx4a65c 48 "java/util/ArrayList" "size" "I", Cond.methodLink RX4 155 yJx4a65c_get_915e3, Cond.instanceMethod yJx4a65c_get_915e3, Cond.selects RJx4a65c yJx4a65c_get_915e3 yJx4a65c_get_915e3]
def wsL_named_r2 : List Cond := [Cond.code yJx4a65c_get_915e3 cJx4a65c_get_915e3 2 (some (.object "java/lang/Object")), Cond.methodLink RJx4a65c 118 yJ15_checkIndex_7cf53, Cond.static yJ15_checkIndex_7cf53, Cond.initialized RJ15, Cond.code yJ15_checkIndex_7cf53 cJ15_checkIndex_7cf53 2 (some .int), Cond.methodLink RJ15 105 yJ3_checkIndex_8e157, Cond.static yJ3_checkIndex_8e157, Cond.initialized RJ3, Cond.code yJ3_checkIndex_8e157 cJ3_checkIndex_8e157 3 (some .int), Cond.methodLink RJx4a65c 123 yJx4a65c_elementData_915e3, Cond.instanceMethod yJx4a65c_elementData_915e3, Cond.selects RJx4a65c yJx4a65c_elementData_915e3 yJx4a65c_elementData_915e3, Cond.code yJx4a65c_elementData_915e3 cJx4a65c_elementData_915e3 2 (some (.object "java/lang/Object")), Cond.fieldLink RJx4a65c 9 "java/util/ArrayList" "elementData" "[Ljava/lang/Object;", Cond.methodLink RX4 125 yX4_mappingOf, Cond.instanceMethod yX4_mappingOf, Cond.selects RX4 yX4_mappingOf yX4_mappingOf, Cond.code yX4_mappingOf cX4_mappingOf 5 (some (.object "ShareMover$Mapping")), Cond.fieldLink RX4 26 "ShareMover" "mapping" "LShareMover$Mapping;", Cond.fieldLink RX4 145 "ShareMover$Mapping" "lost" "I", Cond.methodLink RX4 148 yX4_findHeld, Cond.instanceMethod yX4_findHeld, Cond.selects RX4 yX4_findHeld yX4_findHeld, Cond.code yX4_findHeld cX4_findHeld 3 none]
def wsL_named_r3 : List Cond := [Cond.fieldLink RX4 209 "ShareMover$Mapping" "held" "[I", Cond.methodLink RX4 118 yX4_rightsByEntries, Cond.instanceMethod yX4_rightsByEntries, Cond.selects RX4 yX4_rightsByEntries yX4_rightsByEntries, Cond.code yX4_rightsByEntries cX4_rightsByEntries 8 (some .int), Cond.fieldLink RX4 81 "ShareMover$Folder" "owner" "I", Cond.fieldLink RX4 99 "ShareMover$Folder" "row" "Ljava/util/ArrayList;", Cond.classLink RX4 104 "ShareMover$Entry", Cond.fieldLink RX4 193 "ShareMover$Entry" "allows" "Z", Cond.fieldLink RX4 115 "ShareMover$Entry" "rights" "I", Cond.methodLink RX4 185 yX0_counts, Cond.instanceMethod yX0_counts, Cond.selects RX0 yX0_counts yX0_counts, Cond.initialized RX0, Cond.code yX0_counts cX0_counts 2 (some .boolean), Cond.fieldLink RX0 22 "ShareMover$Entry" "scope" "I", Cond.methodLink RX4 189 yX4_isFor, Cond.instanceMethod yX4_isFor, Cond.selects RX4 yX4_isFor yX4_isFor, Cond.code yX4_isFor cX4_isFor 3 (some .boolean), Cond.fieldLink RX4 182 "ShareMover$Entry" "who" "I", Cond.fieldLink RX4 12 "ShareMover" "groups" "LShareMover$Groups;", Cond.methodLink RX4 68 yX2_everyoneIn, Cond.instanceMethod yX2_everyoneIn]
def wsL_named_r4 : List Cond := [Cond.selects RX2 yX2_everyoneIn yX2_everyoneIn, Cond.initialized RX2, Cond.code yX2_everyoneIn cX2_everyoneIn 2 (some .int), Cond.fieldLink RX2 18 "ShareMover$Groups" "everyone" "[I", Cond.methodLink RX4 54 yX4_contains, Cond.static yX4_contains, Cond.code yX4_contains cX4_contains 2 (some .boolean), Cond.methodLink RX4 196 yX1_inheritsFrom, Cond.instanceMethod yX1_inheritsFrom, Cond.selects RX1 yX1_inheritsFrom yX1_inheritsFrom, Cond.initialized RX1, Cond.code yX1_inheritsFrom cX1_inheritsFrom 1 (some (.object "ShareMover$Folder")), Cond.fieldLink RX1 22 "ShareMover$Folder" "inherits" "Z", Cond.fieldLink RX1 32 "ShareMover$Folder" "parent" "LShareMover$Folder;", Cond.methodLink RX4 152 yX4_mapWith, Cond.instanceMethod yX4_mapWith, Cond.selects RX4 yX4_mapWith yX4_mapWith, Cond.code yX4_mapWith cX4_mapWith 4 none, Cond.methodLink RX4 212 yX3_make, Cond.instanceMethod yX3_make, Cond.selects RX3 yX3_make yX3_make, Cond.initialized RX3, Cond.code yX3_make cX3_make 5 none, Cond.fieldLink RX3 18 "ShareMover$Mapping" "group" "I"]
def wsL_named_r5 : List Cond := [Cond.fieldLink RX3 28 "ShareMover$Mapping" "namedPersons" "I", Cond.fieldLink RX3 31 "ShareMover$Mapping" "lost" "I", Cond.methodLink RX3 34 yX3_findBits, Cond.instanceMethod yX3_findBits, Cond.selects RX3 yX3_findBits yX3_findBits, Cond.code yX3_findBits cX3_findBits 5 none, Cond.fieldLink RX3 22 "ShareMover$Mapping" "groupBits" "I", Cond.fieldLink RX3 25 "ShareMover$Mapping" "otherBits" "I", Cond.fieldLink RX3 15 "ShareMover$Mapping" "given" "[I", Cond.fieldLink RX3 9 "ShareMover$Mapping" "held" "[I", Cond.methodLink RX3 42 yX3_sharedBy, Cond.instanceMethod yX3_sharedBy, Cond.selects RX3 yX3_sharedBy yX3_sharedBy, Cond.code yX3_sharedBy cX3_sharedBy 4 (some .int), Cond.methodLink RX3 50 yX3_lossOf, Cond.instanceMethod yX3_lossOf, Cond.selects RX3 yX3_lossOf yX3_lossOf, Cond.code yX3_lossOf cX3_lossOf 2 (some .int), Cond.methodLink RX3 53 yJ6_bitCount_0f7a4, Cond.static yJ6_bitCount_0f7a4, Cond.initialized RJ6, Cond.code yJ6_bitCount_0f7a4 cJ6_bitCount_0f7a4 1 (some .int), Cond.constant RJ6 265 (1431655765), Cond.constant RJ6 266 (858993459)]
def wsL_named_r6 : List Cond := [Cond.constant RJ6 267 (252645135), Cond.methodLink RX3 38 yX3_greatestLoser, Cond.instanceMethod yX3_greatestLoser, Cond.selects RX3 yX3_greatestLoser yX3_greatestLoser, Cond.code yX3_greatestLoser cX3_greatestLoser 3 (some .int)]
def wsL_named : List Cond := .codeWith yL_named cL_named 4 (some .int) [(0, 9, 12, 13)] :: ((wsL_named_r1 ++ (wsL_named_r2 ++ (wsL_named_r3 ++ (wsL_named_r4 ++ (wsL_named_r5 ++ wsL_named_r6))))) ++ wsX30 ++ wsX40 ++ wsJx4a65c0 ++ wsX10 ++ wsX00 ++ wsX20 ++ (vx_atS RX4 93 "java/lang/IndexOutOfBoundsException" ["java/lang/RuntimeException", "java/lang/Exception"]).filter goodWord)
def wsL_mapped_r1 : List Cond := [Cond.classLink RL 13 "java/lang/IndexOutOfBoundsException", Cond.methodLink RL 60 yX4_mapped, Cond.instanceMethod yX4_mapped, Cond.selects RX4 yX4_mapped yX4_mapped, Cond.initialized RX4, Cond.code yX4_mapped cX4_mapped 3 (some .int), Cond.fieldLink RX4 141 "ShareMover$Mapping" "given" "[I", Cond.methodLink RX4 43 yX4_refuseNoPerson, Cond.static yX4_refuseNoPerson, Cond.code yX4_refuseNoPerson cX4_refuseNoPerson 1 none, Cond.classLink RX4 89 "java/lang/IndexOutOfBoundsException", Cond.initialized "java/lang/IndexOutOfBoundsException", Cond.methodLink RX4 71 yX4_folderAt, Cond.instanceMethod yX4_folderAt, Cond.selects RX4 yX4_folderAt yX4_folderAt, Cond.code yX4_folderAt cX4_folderAt 2 (some (.object "ShareMover$Folder")), Cond.fieldLink RX4 19 "ShareMover" "tree" "Ljava/util/ArrayList;", Cond.classLink RX4 30 "ShareMover$Folder", Cond.methodLink RX4 75 yJx4a65c_size_8abf5, Cond.instanceMethod yJx4a65c_size_8abf5, Cond.selects RJx4a65c yJx4a65c_size_8abf5 yJx4a65c_size_8abf5, Cond.initialized RJx4a65c, Cond.code yJx4a65c_size_8abf5 cJx4a65c_size_8abf5 1 (some .int), Cond.fieldLink RJx4a65c 48 "java/util/ArrayList" "size" "I"]
def wsL_mapped_r2 : List Cond := [Cond.methodLink RX4 155 yJx4a65c_get_915e3, Cond.instanceMethod yJx4a65c_get_915e3, Cond.selects RJx4a65c yJx4a65c_get_915e3 yJx4a65c_get_915e3, Cond.code yJx4a65c_get_915e3 cJx4a65c_get_915e3 2 (some (.object "java/lang/Object")), Cond.methodLink RJx4a65c 118 yJ15_checkIndex_7cf53, Cond.static yJ15_checkIndex_7cf53, Cond.initialized RJ15, Cond.code yJ15_checkIndex_7cf53 cJ15_checkIndex_7cf53 2 (some .int), Cond.methodLink RJ15 105 yJ3_checkIndex_8e157, Cond.static yJ3_checkIndex_8e157, Cond.initialized RJ3, Cond.code yJ3_checkIndex_8e157 cJ3_checkIndex_8e157 3 (some .int), Cond.methodLink RJx4a65c 123 yJx4a65c_elementData_915e3, Cond.instanceMethod yJx4a65c_elementData_915e3, Cond.selects RJx4a65c yJx4a65c_elementData_915e3 yJx4a65c_elementData_915e3, Cond.code yJx4a65c_elementData_915e3 cJx4a65c_elementData_915e3 2 (some (.object "java/lang/Object")), Cond.fieldLink RJx4a65c 9 "java/util/ArrayList" "elementData" "[Ljava/lang/Object;", Cond.methodLink RX4 125 yX4_mappingOf, Cond.instanceMethod yX4_mappingOf, Cond.selects RX4 yX4_mappingOf yX4_mappingOf, Cond.code yX4_mappingOf cX4_mappingOf 5 (some (.object "ShareMover$Mapping")), Cond.fieldLink RX4 26 "ShareMover" "mapping" "LShareMover$Mapping;", Cond.fieldLink RX4 145 "ShareMover$Mapping" "lost" "I", Cond.methodLink RX4 148 yX4_findHeld]
def wsL_mapped_r3 : List Cond := [Cond.instanceMethod yX4_findHeld, Cond.selects RX4 yX4_findHeld yX4_findHeld, Cond.code yX4_findHeld cX4_findHeld 3 none, Cond.fieldLink RX4 209 "ShareMover$Mapping" "held" "[I", Cond.methodLink RX4 118 yX4_rightsByEntries, Cond.instanceMethod yX4_rightsByEntries, Cond.selects RX4 yX4_rightsByEntries yX4_rightsByEntries, Cond.code yX4_rightsByEntries cX4_rightsByEntries 8 (some .int), Cond.fieldLink RX4 81 "ShareMover$Folder" "owner" "I", Cond.fieldLink RX4 99 "ShareMover$Folder" "row" "Ljava/util/ArrayList;", Cond.classLink RX4 104 "ShareMover$Entry", Cond.fieldLink RX4 193 "ShareMover$Entry" "allows" "Z", Cond.fieldLink RX4 115 "ShareMover$Entry" "rights" "I", Cond.methodLink RX4 185 yX0_counts, Cond.instanceMethod yX0_counts, Cond.selects RX0 yX0_counts yX0_counts, Cond.initialized RX0, Cond.code yX0_counts cX0_counts 2 (some .boolean), Cond.fieldLink RX0 22 "ShareMover$Entry" "scope" "I", Cond.methodLink RX4 189 yX4_isFor, Cond.instanceMethod yX4_isFor, Cond.selects RX4 yX4_isFor yX4_isFor, Cond.code yX4_isFor cX4_isFor 3 (some .boolean), Cond.fieldLink RX4 182 "ShareMover$Entry" "who" "I"]
def wsL_mapped_r4 : List Cond := [Cond.fieldLink RX4 12 "ShareMover" "groups" "LShareMover$Groups;", Cond.methodLink RX4 68 yX2_everyoneIn, Cond.instanceMethod yX2_everyoneIn, Cond.selects RX2 yX2_everyoneIn yX2_everyoneIn, Cond.initialized RX2, Cond.code yX2_everyoneIn cX2_everyoneIn 2 (some .int), Cond.fieldLink RX2 18 "ShareMover$Groups" "everyone" "[I", Cond.methodLink RX4 54 yX4_contains, Cond.static yX4_contains, Cond.code yX4_contains cX4_contains 2 (some .boolean), Cond.methodLink RX4 196 yX1_inheritsFrom, Cond.instanceMethod yX1_inheritsFrom, Cond.selects RX1 yX1_inheritsFrom yX1_inheritsFrom, Cond.initialized RX1, Cond.code yX1_inheritsFrom cX1_inheritsFrom 1 (some (.object "ShareMover$Folder")), Cond.fieldLink RX1 22 "ShareMover$Folder" "inherits" "Z", Cond.fieldLink RX1 32 "ShareMover$Folder" "parent" "LShareMover$Folder;", Cond.methodLink RX4 152 yX4_mapWith, Cond.instanceMethod yX4_mapWith, Cond.selects RX4 yX4_mapWith yX4_mapWith, Cond.code yX4_mapWith cX4_mapWith 4 none, Cond.methodLink RX4 212 yX3_make, Cond.instanceMethod yX3_make, Cond.selects RX3 yX3_make yX3_make]
def wsL_mapped_r5 : List Cond := [Cond.initialized RX3, Cond.code yX3_make cX3_make 5 none, Cond.fieldLink RX3 18 "ShareMover$Mapping" "group" "I", Cond.fieldLink RX3 28 "ShareMover$Mapping" "namedPersons" "I", Cond.fieldLink RX3 31 "ShareMover$Mapping" "lost" "I", Cond.methodLink RX3 34 yX3_findBits, Cond.instanceMethod yX3_findBits, Cond.selects RX3 yX3_findBits yX3_findBits, Cond.code yX3_findBits cX3_findBits 5 none, Cond.fieldLink RX3 22 "ShareMover$Mapping" "groupBits" "I", Cond.fieldLink RX3 25 "ShareMover$Mapping" "otherBits" "I", Cond.fieldLink RX3 15 "ShareMover$Mapping" "given" "[I", Cond.fieldLink RX3 9 "ShareMover$Mapping" "held" "[I", Cond.methodLink RX3 42 yX3_sharedBy, Cond.instanceMethod yX3_sharedBy, Cond.selects RX3 yX3_sharedBy yX3_sharedBy, Cond.code yX3_sharedBy cX3_sharedBy 4 (some .int), Cond.methodLink RX3 50 yX3_lossOf, Cond.instanceMethod yX3_lossOf, Cond.selects RX3 yX3_lossOf yX3_lossOf, Cond.code yX3_lossOf cX3_lossOf 2 (some .int), Cond.methodLink RX3 53 yJ6_bitCount_0f7a4, Cond.static yJ6_bitCount_0f7a4, Cond.initialized RJ6]
def wsL_mapped_r6 : List Cond := [Cond.code yJ6_bitCount_0f7a4 cJ6_bitCount_0f7a4 1 (some .int), Cond.constant RJ6 265 (1431655765), Cond.constant RJ6 266 (858993459), Cond.constant RJ6 267 (252645135), Cond.methodLink RX3 38 yX3_greatestLoser, Cond.instanceMethod yX3_greatestLoser, Cond.selects RX3 yX3_greatestLoser yX3_greatestLoser, Cond.code yX3_greatestLoser cX3_greatestLoser 3 (some .int)]
def wsL_mapped : List Cond := .codeWith yL_mapped cL_mapped 5 (some .int) [(0, 10, 13, 13)] :: ((wsL_mapped_r1 ++ (wsL_mapped_r2 ++ (wsL_mapped_r3 ++ (wsL_mapped_r4 ++ (wsL_mapped_r5 ++ wsL_mapped_r6))))) ++ wsX30 ++ wsX40 ++ wsJx4a65c0 ++ wsX10 ++ wsX00 ++ wsX20 ++ (vx_atS RX4 93 "java/lang/IndexOutOfBoundsException" ["java/lang/RuntimeException", "java/lang/Exception"]).filter goodWord)
def wsL_loss_r1 : List Cond := [Cond.classLink RL 13 "java/lang/IndexOutOfBoundsException", Cond.methodLink RL 63 yX4_loss, Cond.instanceMethod yX4_loss, Cond.selects RX4 yX4_loss yX4_loss, Cond.initialized RX4, Cond.code yX4_loss cX4_loss 2 (some .int), Cond.fieldLink RX4 145 "ShareMover$Mapping" "lost" "I", Cond.methodLink RX4 71 yX4_folderAt, Cond.instanceMethod yX4_folderAt, Cond.selects RX4 yX4_folderAt yX4_folderAt, Cond.code yX4_folderAt cX4_folderAt 2 (some (.object "ShareMover$Folder")), Cond.classLink RX4 89 "java/lang/IndexOutOfBoundsException", Cond.initialized "java/lang/IndexOutOfBoundsException", Cond.fieldLink RX4 19 "ShareMover" "tree" "Ljava/util/ArrayList;", Cond.classLink RX4 30 "ShareMover$Folder", Cond.methodLink RX4 75 yJx4a65c_size_8abf5, Cond.instanceMethod yJx4a65c_size_8abf5, Cond.selects RJx4a65c yJx4a65c_size_8abf5 yJx4a65c_size_8abf5, Cond.initialized RJx4a65c, Cond.code yJx4a65c_size_8abf5 cJx4a65c_size_8abf5 1 (some .int), Cond.fieldLink RJx4a65c 48 "java/util/ArrayList" "size" "I", Cond.methodLink RX4 155 yJx4a65c_get_915e3, Cond.instanceMethod yJx4a65c_get_915e3, Cond.selects RJx4a65c yJx4a65c_get_915e3 yJx4a65c_get_915e3]
def wsL_loss_r2 : List Cond := [Cond.code yJx4a65c_get_915e3 cJx4a65c_get_915e3 2 (some (.object "java/lang/Object")), Cond.methodLink RJx4a65c 118 yJ15_checkIndex_7cf53, Cond.static yJ15_checkIndex_7cf53, Cond.initialized RJ15, Cond.code yJ15_checkIndex_7cf53 cJ15_checkIndex_7cf53 2 (some .int), Cond.methodLink RJ15 105 yJ3_checkIndex_8e157, Cond.static yJ3_checkIndex_8e157, Cond.initialized RJ3, Cond.code yJ3_checkIndex_8e157 cJ3_checkIndex_8e157 3 (some .int), Cond.methodLink RJx4a65c 123 yJx4a65c_elementData_915e3, Cond.instanceMethod yJx4a65c_elementData_915e3, Cond.selects RJx4a65c yJx4a65c_elementData_915e3 yJx4a65c_elementData_915e3, Cond.code yJx4a65c_elementData_915e3 cJx4a65c_elementData_915e3 2 (some (.object "java/lang/Object")), Cond.fieldLink RJx4a65c 9 "java/util/ArrayList" "elementData" "[Ljava/lang/Object;", Cond.methodLink RX4 125 yX4_mappingOf, Cond.instanceMethod yX4_mappingOf, Cond.selects RX4 yX4_mappingOf yX4_mappingOf, Cond.code yX4_mappingOf cX4_mappingOf 5 (some (.object "ShareMover$Mapping")), Cond.fieldLink RX4 26 "ShareMover" "mapping" "LShareMover$Mapping;", Cond.methodLink RX4 148 yX4_findHeld, Cond.instanceMethod yX4_findHeld, Cond.selects RX4 yX4_findHeld yX4_findHeld, Cond.code yX4_findHeld cX4_findHeld 3 none, Cond.fieldLink RX4 209 "ShareMover$Mapping" "held" "[I"]
def wsL_loss_r3 : List Cond := [Cond.methodLink RX4 118 yX4_rightsByEntries, Cond.instanceMethod yX4_rightsByEntries, Cond.selects RX4 yX4_rightsByEntries yX4_rightsByEntries, Cond.code yX4_rightsByEntries cX4_rightsByEntries 8 (some .int), Cond.fieldLink RX4 81 "ShareMover$Folder" "owner" "I", Cond.fieldLink RX4 99 "ShareMover$Folder" "row" "Ljava/util/ArrayList;", Cond.classLink RX4 104 "ShareMover$Entry", Cond.fieldLink RX4 193 "ShareMover$Entry" "allows" "Z", Cond.fieldLink RX4 115 "ShareMover$Entry" "rights" "I", Cond.methodLink RX4 185 yX0_counts, Cond.instanceMethod yX0_counts, Cond.selects RX0 yX0_counts yX0_counts, Cond.initialized RX0, Cond.code yX0_counts cX0_counts 2 (some .boolean), Cond.fieldLink RX0 22 "ShareMover$Entry" "scope" "I", Cond.methodLink RX4 189 yX4_isFor, Cond.instanceMethod yX4_isFor, Cond.selects RX4 yX4_isFor yX4_isFor, Cond.code yX4_isFor cX4_isFor 3 (some .boolean), Cond.fieldLink RX4 182 "ShareMover$Entry" "who" "I", Cond.fieldLink RX4 12 "ShareMover" "groups" "LShareMover$Groups;", Cond.methodLink RX4 68 yX2_everyoneIn, Cond.instanceMethod yX2_everyoneIn, Cond.selects RX2 yX2_everyoneIn yX2_everyoneIn]
def wsL_loss_r4 : List Cond := [Cond.initialized RX2, Cond.code yX2_everyoneIn cX2_everyoneIn 2 (some .int), Cond.fieldLink RX2 18 "ShareMover$Groups" "everyone" "[I", Cond.methodLink RX4 54 yX4_contains, Cond.static yX4_contains, Cond.code yX4_contains cX4_contains 2 (some .boolean), Cond.methodLink RX4 196 yX1_inheritsFrom, Cond.instanceMethod yX1_inheritsFrom, Cond.selects RX1 yX1_inheritsFrom yX1_inheritsFrom, Cond.initialized RX1, Cond.code yX1_inheritsFrom cX1_inheritsFrom 1 (some (.object "ShareMover$Folder")), Cond.fieldLink RX1 22 "ShareMover$Folder" "inherits" "Z", Cond.fieldLink RX1 32 "ShareMover$Folder" "parent" "LShareMover$Folder;", Cond.methodLink RX4 152 yX4_mapWith, Cond.instanceMethod yX4_mapWith, Cond.selects RX4 yX4_mapWith yX4_mapWith, Cond.code yX4_mapWith cX4_mapWith 4 none, Cond.methodLink RX4 212 yX3_make, Cond.instanceMethod yX3_make, Cond.selects RX3 yX3_make yX3_make, Cond.initialized RX3, Cond.code yX3_make cX3_make 5 none, Cond.fieldLink RX3 18 "ShareMover$Mapping" "group" "I", Cond.fieldLink RX3 28 "ShareMover$Mapping" "namedPersons" "I"]
def wsL_loss_r5 : List Cond := [Cond.fieldLink RX3 31 "ShareMover$Mapping" "lost" "I", Cond.methodLink RX3 34 yX3_findBits, Cond.instanceMethod yX3_findBits, Cond.selects RX3 yX3_findBits yX3_findBits, Cond.code yX3_findBits cX3_findBits 5 none, Cond.fieldLink RX3 22 "ShareMover$Mapping" "groupBits" "I", Cond.fieldLink RX3 25 "ShareMover$Mapping" "otherBits" "I", Cond.fieldLink RX3 15 "ShareMover$Mapping" "given" "[I", Cond.fieldLink RX3 9 "ShareMover$Mapping" "held" "[I", Cond.methodLink RX3 42 yX3_sharedBy, Cond.instanceMethod yX3_sharedBy, Cond.selects RX3 yX3_sharedBy yX3_sharedBy, Cond.code yX3_sharedBy cX3_sharedBy 4 (some .int), Cond.methodLink RX3 50 yX3_lossOf, Cond.instanceMethod yX3_lossOf, Cond.selects RX3 yX3_lossOf yX3_lossOf, Cond.code yX3_lossOf cX3_lossOf 2 (some .int), Cond.methodLink RX3 53 yJ6_bitCount_0f7a4, Cond.static yJ6_bitCount_0f7a4, Cond.initialized RJ6, Cond.code yJ6_bitCount_0f7a4 cJ6_bitCount_0f7a4 1 (some .int), Cond.constant RJ6 265 (1431655765), Cond.constant RJ6 266 (858993459), Cond.constant RJ6 267 (252645135)]
def wsL_loss_r6 : List Cond := [Cond.methodLink RX3 38 yX3_greatestLoser, Cond.instanceMethod yX3_greatestLoser, Cond.selects RX3 yX3_greatestLoser yX3_greatestLoser, Cond.code yX3_greatestLoser cX3_greatestLoser 3 (some .int)]
def wsL_loss : List Cond := .codeWith yL_loss cL_loss 4 (some .int) [(0, 9, 12, 13)] :: ((wsL_loss_r1 ++ (wsL_loss_r2 ++ (wsL_loss_r3 ++ (wsL_loss_r4 ++ (wsL_loss_r5 ++ wsL_loss_r6))))) ++ wsX30 ++ wsX40 ++ wsJx4a65c0 ++ wsX10 ++ wsX00 ++ wsX20 ++ (vx_atS RX4 93 "java/lang/IndexOutOfBoundsException" ["java/lang/RuntimeException", "java/lang/Exception"]).filter goodWord)
def wsL_lossWith_r1 : List Cond := [Cond.classLink RL 13 "java/lang/IndexOutOfBoundsException", Cond.methodLink RL 66 yX4_lossWith, Cond.instanceMethod yX4_lossWith, Cond.selects RX4 yX4_lossWith yX4_lossWith, Cond.initialized RX4, Cond.code yX4_lossWith cX4_lossWith 4 (some .int), Cond.fieldLink RX4 26 "ShareMover" "mapping" "LShareMover$Mapping;", Cond.fieldLink RX4 145 "ShareMover$Mapping" "lost" "I", Cond.methodLink RX4 71 yX4_folderAt, Cond.instanceMethod yX4_folderAt, Cond.selects RX4 yX4_folderAt yX4_folderAt, Cond.code yX4_folderAt cX4_folderAt 2 (some (.object "ShareMover$Folder")), Cond.classLink RX4 89 "java/lang/IndexOutOfBoundsException", Cond.initialized "java/lang/IndexOutOfBoundsException", Cond.fieldLink RX4 19 "ShareMover" "tree" "Ljava/util/ArrayList;", Cond.classLink RX4 30 "ShareMover$Folder", Cond.methodLink RX4 75 yJx4a65c_size_8abf5, Cond.instanceMethod yJx4a65c_size_8abf5, Cond.selects RJx4a65c yJx4a65c_size_8abf5 yJx4a65c_size_8abf5, Cond.initialized RJx4a65c, Cond.code yJx4a65c_size_8abf5 cJx4a65c_size_8abf5 1 (some .int), Cond.fieldLink RJx4a65c 48 "java/util/ArrayList" "size" "I", Cond.methodLink RX4 155 yJx4a65c_get_915e3, Cond.instanceMethod yJx4a65c_get_915e3]
def wsL_lossWith_r2 : List Cond := [Cond.selects RJx4a65c yJx4a65c_get_915e3 yJx4a65c_get_915e3, Cond.code yJx4a65c_get_915e3 cJx4a65c_get_915e3 2 (some (.object "java/lang/Object")), Cond.methodLink RJx4a65c 118 yJ15_checkIndex_7cf53, Cond.static yJ15_checkIndex_7cf53, Cond.initialized RJ15, Cond.code yJ15_checkIndex_7cf53 cJ15_checkIndex_7cf53 2 (some .int), Cond.methodLink RJ15 105 yJ3_checkIndex_8e157, Cond.static yJ3_checkIndex_8e157, Cond.initialized RJ3, Cond.code yJ3_checkIndex_8e157 cJ3_checkIndex_8e157 3 (some .int), Cond.methodLink RJx4a65c 123 yJx4a65c_elementData_915e3, Cond.instanceMethod yJx4a65c_elementData_915e3, Cond.selects RJx4a65c yJx4a65c_elementData_915e3 yJx4a65c_elementData_915e3, Cond.code yJx4a65c_elementData_915e3 cJx4a65c_elementData_915e3 2 (some (.object "java/lang/Object")), Cond.fieldLink RJx4a65c 9 "java/util/ArrayList" "elementData" "[Ljava/lang/Object;", Cond.methodLink RX4 39 yX4_refuseNoGroup, Cond.static yX4_refuseNoGroup, Cond.code yX4_refuseNoGroup cX4_refuseNoGroup 1 none, Cond.methodLink RX4 148 yX4_findHeld, Cond.instanceMethod yX4_findHeld, Cond.selects RX4 yX4_findHeld yX4_findHeld, Cond.code yX4_findHeld cX4_findHeld 3 none, Cond.fieldLink RX4 209 "ShareMover$Mapping" "held" "[I", Cond.methodLink RX4 118 yX4_rightsByEntries]
def wsL_lossWith_r3 : List Cond := [Cond.instanceMethod yX4_rightsByEntries, Cond.selects RX4 yX4_rightsByEntries yX4_rightsByEntries, Cond.code yX4_rightsByEntries cX4_rightsByEntries 8 (some .int), Cond.fieldLink RX4 81 "ShareMover$Folder" "owner" "I", Cond.fieldLink RX4 99 "ShareMover$Folder" "row" "Ljava/util/ArrayList;", Cond.classLink RX4 104 "ShareMover$Entry", Cond.fieldLink RX4 193 "ShareMover$Entry" "allows" "Z", Cond.fieldLink RX4 115 "ShareMover$Entry" "rights" "I", Cond.methodLink RX4 185 yX0_counts, Cond.instanceMethod yX0_counts, Cond.selects RX0 yX0_counts yX0_counts, Cond.initialized RX0, Cond.code yX0_counts cX0_counts 2 (some .boolean), Cond.fieldLink RX0 22 "ShareMover$Entry" "scope" "I", Cond.methodLink RX4 189 yX4_isFor, Cond.instanceMethod yX4_isFor, Cond.selects RX4 yX4_isFor yX4_isFor, Cond.code yX4_isFor cX4_isFor 3 (some .boolean), Cond.fieldLink RX4 182 "ShareMover$Entry" "who" "I", Cond.fieldLink RX4 12 "ShareMover" "groups" "LShareMover$Groups;", Cond.methodLink RX4 68 yX2_everyoneIn, Cond.instanceMethod yX2_everyoneIn, Cond.selects RX2 yX2_everyoneIn yX2_everyoneIn, Cond.initialized RX2]
def wsL_lossWith_r4 : List Cond := [Cond.code yX2_everyoneIn cX2_everyoneIn 2 (some .int), Cond.fieldLink RX2 18 "ShareMover$Groups" "everyone" "[I", Cond.methodLink RX4 54 yX4_contains, Cond.static yX4_contains, Cond.code yX4_contains cX4_contains 2 (some .boolean), Cond.methodLink RX4 196 yX1_inheritsFrom, Cond.instanceMethod yX1_inheritsFrom, Cond.selects RX1 yX1_inheritsFrom yX1_inheritsFrom, Cond.initialized RX1, Cond.code yX1_inheritsFrom cX1_inheritsFrom 1 (some (.object "ShareMover$Folder")), Cond.fieldLink RX1 22 "ShareMover$Folder" "inherits" "Z", Cond.fieldLink RX1 32 "ShareMover$Folder" "parent" "LShareMover$Folder;", Cond.methodLink RX4 152 yX4_mapWith, Cond.instanceMethod yX4_mapWith, Cond.selects RX4 yX4_mapWith yX4_mapWith, Cond.code yX4_mapWith cX4_mapWith 4 none, Cond.methodLink RX4 212 yX3_make, Cond.instanceMethod yX3_make, Cond.selects RX3 yX3_make yX3_make, Cond.initialized RX3, Cond.code yX3_make cX3_make 5 none, Cond.fieldLink RX3 18 "ShareMover$Mapping" "group" "I", Cond.fieldLink RX3 28 "ShareMover$Mapping" "namedPersons" "I", Cond.fieldLink RX3 31 "ShareMover$Mapping" "lost" "I"]
def wsL_lossWith_r5 : List Cond := [Cond.methodLink RX3 34 yX3_findBits, Cond.instanceMethod yX3_findBits, Cond.selects RX3 yX3_findBits yX3_findBits, Cond.code yX3_findBits cX3_findBits 5 none, Cond.fieldLink RX3 22 "ShareMover$Mapping" "groupBits" "I", Cond.fieldLink RX3 25 "ShareMover$Mapping" "otherBits" "I", Cond.fieldLink RX3 15 "ShareMover$Mapping" "given" "[I", Cond.fieldLink RX3 9 "ShareMover$Mapping" "held" "[I", Cond.methodLink RX3 42 yX3_sharedBy, Cond.instanceMethod yX3_sharedBy, Cond.selects RX3 yX3_sharedBy yX3_sharedBy, Cond.code yX3_sharedBy cX3_sharedBy 4 (some .int), Cond.methodLink RX3 50 yX3_lossOf, Cond.instanceMethod yX3_lossOf, Cond.selects RX3 yX3_lossOf yX3_lossOf, Cond.code yX3_lossOf cX3_lossOf 2 (some .int), Cond.methodLink RX3 53 yJ6_bitCount_0f7a4, Cond.static yJ6_bitCount_0f7a4, Cond.initialized RJ6, Cond.code yJ6_bitCount_0f7a4 cJ6_bitCount_0f7a4 1 (some .int), Cond.constant RJ6 265 (1431655765), Cond.constant RJ6 266 (858993459), Cond.constant RJ6 267 (252645135), Cond.methodLink RX3 38 yX3_greatestLoser]
def wsL_lossWith_r6 : List Cond := [Cond.instanceMethod yX3_greatestLoser, Cond.selects RX3 yX3_greatestLoser yX3_greatestLoser, Cond.code yX3_greatestLoser cX3_greatestLoser 3 (some .int)]
def wsL_lossWith : List Cond := .codeWith yL_lossWith cL_lossWith 5 (some .int) [(0, 10, 13, 13)] :: ((wsL_lossWith_r1 ++ (wsL_lossWith_r2 ++ (wsL_lossWith_r3 ++ (wsL_lossWith_r4 ++ (wsL_lossWith_r5 ++ wsL_lossWith_r6))))) ++ wsX40 ++ wsX30 ++ wsJx4a65c0 ++ wsX10 ++ wsX00 ++ wsX20 ++ (vx_atS RX4 93 "java/lang/IndexOutOfBoundsException" ["java/lang/RuntimeException", "java/lang/Exception"]).filter goodWord)
def wsL_isFresh_r1 : List Cond := [Cond.classLink RL 13 "java/lang/IndexOutOfBoundsException", Cond.methodLink RL 69 yX4_isFresh, Cond.instanceMethod yX4_isFresh, Cond.selects RX4 yX4_isFresh yX4_isFresh, Cond.initialized RX4, Cond.code yX4_isFresh cX4_isFresh 3 (some .boolean), Cond.fieldLink RX4 141 "ShareMover$Mapping" "given" "[I", Cond.methodLink RX4 71 yX4_folderAt, Cond.instanceMethod yX4_folderAt, Cond.selects RX4 yX4_folderAt yX4_folderAt, Cond.code yX4_folderAt cX4_folderAt 2 (some (.object "ShareMover$Folder")), Cond.classLink RX4 89 "java/lang/IndexOutOfBoundsException", Cond.initialized "java/lang/IndexOutOfBoundsException", Cond.fieldLink RX4 19 "ShareMover" "tree" "Ljava/util/ArrayList;", Cond.classLink RX4 30 "ShareMover$Folder", Cond.methodLink RX4 75 yJx4a65c_size_8abf5, Cond.instanceMethod yJx4a65c_size_8abf5, Cond.selects RJx4a65c yJx4a65c_size_8abf5 yJx4a65c_size_8abf5, Cond.initialized RJx4a65c, Cond.code yJx4a65c_size_8abf5 cJx4a65c_size_8abf5 1 (some .int), Cond.fieldLink RJx4a65c 48 "java/util/ArrayList" "size" "I", Cond.methodLink RX4 155 yJx4a65c_get_915e3, Cond.instanceMethod yJx4a65c_get_915e3, Cond.selects RJx4a65c yJx4a65c_get_915e3 yJx4a65c_get_915e3]
def wsL_isFresh_r2 : List Cond := [Cond.code yJx4a65c_get_915e3 cJx4a65c_get_915e3 2 (some (.object "java/lang/Object")), Cond.methodLink RJx4a65c 118 yJ15_checkIndex_7cf53, Cond.static yJ15_checkIndex_7cf53, Cond.initialized RJ15, Cond.code yJ15_checkIndex_7cf53 cJ15_checkIndex_7cf53 2 (some .int), Cond.methodLink RJ15 105 yJ3_checkIndex_8e157, Cond.static yJ3_checkIndex_8e157, Cond.initialized RJ3, Cond.code yJ3_checkIndex_8e157 cJ3_checkIndex_8e157 3 (some .int), Cond.methodLink RJx4a65c 123 yJx4a65c_elementData_915e3, Cond.instanceMethod yJx4a65c_elementData_915e3, Cond.selects RJx4a65c yJx4a65c_elementData_915e3 yJx4a65c_elementData_915e3, Cond.code yJx4a65c_elementData_915e3 cJx4a65c_elementData_915e3 2 (some (.object "java/lang/Object")), Cond.fieldLink RJx4a65c 9 "java/util/ArrayList" "elementData" "[Ljava/lang/Object;", Cond.methodLink RX4 125 yX4_mappingOf, Cond.instanceMethod yX4_mappingOf, Cond.selects RX4 yX4_mappingOf yX4_mappingOf, Cond.code yX4_mappingOf cX4_mappingOf 5 (some (.object "ShareMover$Mapping")), Cond.fieldLink RX4 26 "ShareMover" "mapping" "LShareMover$Mapping;", Cond.fieldLink RX4 145 "ShareMover$Mapping" "lost" "I", Cond.methodLink RX4 148 yX4_findHeld, Cond.instanceMethod yX4_findHeld, Cond.selects RX4 yX4_findHeld yX4_findHeld, Cond.code yX4_findHeld cX4_findHeld 3 none]
def wsL_isFresh_r3 : List Cond := [Cond.fieldLink RX4 209 "ShareMover$Mapping" "held" "[I", Cond.methodLink RX4 118 yX4_rightsByEntries, Cond.instanceMethod yX4_rightsByEntries, Cond.selects RX4 yX4_rightsByEntries yX4_rightsByEntries, Cond.code yX4_rightsByEntries cX4_rightsByEntries 8 (some .int), Cond.fieldLink RX4 81 "ShareMover$Folder" "owner" "I", Cond.fieldLink RX4 99 "ShareMover$Folder" "row" "Ljava/util/ArrayList;", Cond.classLink RX4 104 "ShareMover$Entry", Cond.fieldLink RX4 193 "ShareMover$Entry" "allows" "Z", Cond.fieldLink RX4 115 "ShareMover$Entry" "rights" "I", Cond.methodLink RX4 185 yX0_counts, Cond.instanceMethod yX0_counts, Cond.selects RX0 yX0_counts yX0_counts, Cond.initialized RX0, Cond.code yX0_counts cX0_counts 2 (some .boolean), Cond.fieldLink RX0 22 "ShareMover$Entry" "scope" "I", Cond.methodLink RX4 189 yX4_isFor, Cond.instanceMethod yX4_isFor, Cond.selects RX4 yX4_isFor yX4_isFor, Cond.code yX4_isFor cX4_isFor 3 (some .boolean), Cond.fieldLink RX4 182 "ShareMover$Entry" "who" "I", Cond.fieldLink RX4 12 "ShareMover" "groups" "LShareMover$Groups;", Cond.methodLink RX4 68 yX2_everyoneIn, Cond.instanceMethod yX2_everyoneIn]
def wsL_isFresh_r4 : List Cond := [Cond.selects RX2 yX2_everyoneIn yX2_everyoneIn, Cond.initialized RX2, Cond.code yX2_everyoneIn cX2_everyoneIn 2 (some .int), Cond.fieldLink RX2 18 "ShareMover$Groups" "everyone" "[I", Cond.methodLink RX4 54 yX4_contains, Cond.static yX4_contains, Cond.code yX4_contains cX4_contains 2 (some .boolean), Cond.methodLink RX4 196 yX1_inheritsFrom, Cond.instanceMethod yX1_inheritsFrom, Cond.selects RX1 yX1_inheritsFrom yX1_inheritsFrom, Cond.initialized RX1, Cond.code yX1_inheritsFrom cX1_inheritsFrom 1 (some (.object "ShareMover$Folder")), Cond.fieldLink RX1 22 "ShareMover$Folder" "inherits" "Z", Cond.fieldLink RX1 32 "ShareMover$Folder" "parent" "LShareMover$Folder;", Cond.methodLink RX4 152 yX4_mapWith, Cond.instanceMethod yX4_mapWith, Cond.selects RX4 yX4_mapWith yX4_mapWith, Cond.code yX4_mapWith cX4_mapWith 4 none, Cond.methodLink RX4 212 yX3_make, Cond.instanceMethod yX3_make, Cond.selects RX3 yX3_make yX3_make, Cond.initialized RX3, Cond.code yX3_make cX3_make 5 none, Cond.fieldLink RX3 18 "ShareMover$Mapping" "group" "I"]
def wsL_isFresh_r5 : List Cond := [Cond.fieldLink RX3 28 "ShareMover$Mapping" "namedPersons" "I", Cond.fieldLink RX3 31 "ShareMover$Mapping" "lost" "I", Cond.methodLink RX3 34 yX3_findBits, Cond.instanceMethod yX3_findBits, Cond.selects RX3 yX3_findBits yX3_findBits, Cond.code yX3_findBits cX3_findBits 5 none, Cond.fieldLink RX3 22 "ShareMover$Mapping" "groupBits" "I", Cond.fieldLink RX3 25 "ShareMover$Mapping" "otherBits" "I", Cond.fieldLink RX3 15 "ShareMover$Mapping" "given" "[I", Cond.fieldLink RX3 9 "ShareMover$Mapping" "held" "[I", Cond.methodLink RX3 42 yX3_sharedBy, Cond.instanceMethod yX3_sharedBy, Cond.selects RX3 yX3_sharedBy yX3_sharedBy, Cond.code yX3_sharedBy cX3_sharedBy 4 (some .int), Cond.methodLink RX3 50 yX3_lossOf, Cond.instanceMethod yX3_lossOf, Cond.selects RX3 yX3_lossOf yX3_lossOf, Cond.code yX3_lossOf cX3_lossOf 2 (some .int), Cond.methodLink RX3 53 yJ6_bitCount_0f7a4, Cond.static yJ6_bitCount_0f7a4, Cond.initialized RJ6, Cond.code yJ6_bitCount_0f7a4 cJ6_bitCount_0f7a4 1 (some .int), Cond.constant RJ6 265 (1431655765), Cond.constant RJ6 266 (858993459)]
def wsL_isFresh_r6 : List Cond := [Cond.constant RJ6 267 (252645135), Cond.methodLink RX3 38 yX3_greatestLoser, Cond.instanceMethod yX3_greatestLoser, Cond.selects RX3 yX3_greatestLoser yX3_greatestLoser, Cond.code yX3_greatestLoser cX3_greatestLoser 3 (some .int), Cond.methodLink RX4 162 yX1_keeps, Cond.instanceMethod yX1_keeps, Cond.selects RX1 yX1_keeps yX1_keeps, Cond.code yX1_keeps cX1_keeps 3 (some .boolean), Cond.fieldLink RX1 26 "ShareMover$Folder" "hasKept" "Z", Cond.fieldLink RX1 18 "ShareMover$Folder" "kept" "[I"]
def wsL_isFresh : List Cond := .codeWith yL_isFresh cL_isFresh 4 (some .int) [(0, 16, 19, 13)] :: ((wsL_isFresh_r1 ++ (wsL_isFresh_r2 ++ (wsL_isFresh_r3 ++ (wsL_isFresh_r4 ++ (wsL_isFresh_r5 ++ wsL_isFresh_r6))))) ++ wsX30 ++ wsX40 ++ wsJx4a65c0 ++ wsX10 ++ wsX00 ++ wsX20 ++ (vx_atS RX4 93 "java/lang/IndexOutOfBoundsException" ["java/lang/RuntimeException", "java/lang/Exception"]).filter goodWord)
def wsL_turn_r1 : List Cond := [Cond.classLink RL 13 "java/lang/IndexOutOfBoundsException", Cond.classLink RL 19 "java/lang/IllegalStateException", Cond.methodLink RL 73 yX4_turn, Cond.instanceMethod yX4_turn, Cond.selects RX4 yX4_turn yX4_turn, Cond.initialized RX4, Cond.code yX4_turn cX4_turn 3 (some .boolean), Cond.classLink RX4 58 "java/lang/IllegalStateException", Cond.initialized "java/lang/IllegalStateException", Cond.fieldLink RX4 165 "ShareMover$Folder" "hasKept" "Z", Cond.fieldLink RX4 170 "ShareMover$Folder" "switched" "Z", Cond.methodLink RX4 71 yX4_folderAt, Cond.instanceMethod yX4_folderAt, Cond.selects RX4 yX4_folderAt yX4_folderAt, Cond.code yX4_folderAt cX4_folderAt 2 (some (.object "ShareMover$Folder")), Cond.classLink RX4 89 "java/lang/IndexOutOfBoundsException", Cond.initialized "java/lang/IndexOutOfBoundsException", Cond.fieldLink RX4 19 "ShareMover" "tree" "Ljava/util/ArrayList;", Cond.classLink RX4 30 "ShareMover$Folder", Cond.methodLink RX4 75 yJx4a65c_size_8abf5, Cond.instanceMethod yJx4a65c_size_8abf5, Cond.selects RJx4a65c yJx4a65c_size_8abf5 yJx4a65c_size_8abf5, Cond.initialized RJx4a65c, Cond.code yJx4a65c_size_8abf5 cJx4a65c_size_8abf5 1 (some .int)]
def wsL_turn_r2 : List Cond := [Cond.fieldLink RJx4a65c 48 "java/util/ArrayList" "size" "I", Cond.methodLink RX4 155 yJx4a65c_get_915e3, Cond.instanceMethod yJx4a65c_get_915e3, Cond.selects RJx4a65c yJx4a65c_get_915e3 yJx4a65c_get_915e3, Cond.code yJx4a65c_get_915e3 cJx4a65c_get_915e3 2 (some (.object "java/lang/Object")), Cond.methodLink RJx4a65c 118 yJ15_checkIndex_7cf53, Cond.static yJ15_checkIndex_7cf53, Cond.initialized RJ15, Cond.code yJ15_checkIndex_7cf53 cJ15_checkIndex_7cf53 2 (some .int), Cond.methodLink RJ15 105 yJ3_checkIndex_8e157, Cond.static yJ3_checkIndex_8e157, Cond.initialized RJ3, Cond.code yJ3_checkIndex_8e157 cJ3_checkIndex_8e157 3 (some .int), Cond.methodLink RJx4a65c 123 yJx4a65c_elementData_915e3, Cond.instanceMethod yJx4a65c_elementData_915e3, Cond.selects RJx4a65c yJx4a65c_elementData_915e3 yJx4a65c_elementData_915e3, Cond.code yJx4a65c_elementData_915e3 cJx4a65c_elementData_915e3 2 (some (.object "java/lang/Object")), Cond.fieldLink RJx4a65c 9 "java/util/ArrayList" "elementData" "[Ljava/lang/Object;"]
def wsL_turn : List Cond := .codeWith yL_turn cL_turn 4 (some .int) [(0, 16, 19, 13), (0, 16, 22, 19)] :: ((wsL_turn_r1 ++ wsL_turn_r2) ++ wsX10 ++ wsX40 ++ wsJx4a65c0 ++ (vx_atS RX4 62 "java/lang/IllegalStateException" ["java/lang/RuntimeException", "java/lang/Exception"]).filter goodWord ++ (vx_atS RX4 93 "java/lang/IndexOutOfBoundsException" ["java/lang/RuntimeException", "java/lang/Exception"]).filter goodWord)
def wsL_rightsNow_r1 : List Cond := [Cond.classLink RL 13 "java/lang/IndexOutOfBoundsException", Cond.methodLink RL 76 yX4_rightsNow, Cond.instanceMethod yX4_rightsNow, Cond.selects RX4 yX4_rightsNow yX4_rightsNow, Cond.initialized RX4, Cond.code yX4_rightsNow cX4_rightsNow 3 (some .int), Cond.methodLink RX4 43 yX4_refuseNoPerson, Cond.static yX4_refuseNoPerson, Cond.code yX4_refuseNoPerson cX4_refuseNoPerson 1 none, Cond.classLink RX4 89 "java/lang/IndexOutOfBoundsException", Cond.initialized "java/lang/IndexOutOfBoundsException", Cond.methodLink RX4 71 yX4_folderAt, Cond.instanceMethod yX4_folderAt, Cond.selects RX4 yX4_folderAt yX4_folderAt, Cond.code yX4_folderAt cX4_folderAt 2 (some (.object "ShareMover$Folder")), Cond.fieldLink RX4 19 "ShareMover" "tree" "Ljava/util/ArrayList;", Cond.classLink RX4 30 "ShareMover$Folder", Cond.methodLink RX4 75 yJx4a65c_size_8abf5, Cond.instanceMethod yJx4a65c_size_8abf5, Cond.selects RJx4a65c yJx4a65c_size_8abf5 yJx4a65c_size_8abf5, Cond.initialized RJx4a65c, Cond.code yJx4a65c_size_8abf5 cJx4a65c_size_8abf5 1 (some .int), Cond.fieldLink RJx4a65c 48 "java/util/ArrayList" "size" "I", Cond.methodLink RX4 155 yJx4a65c_get_915e3]
def wsL_rightsNow_r2 : List Cond := [Cond.instanceMethod yJx4a65c_get_915e3, Cond.selects RJx4a65c yJx4a65c_get_915e3 yJx4a65c_get_915e3, Cond.code yJx4a65c_get_915e3 cJx4a65c_get_915e3 2 (some (.object "java/lang/Object")), Cond.methodLink RJx4a65c 118 yJ15_checkIndex_7cf53, Cond.static yJ15_checkIndex_7cf53, Cond.initialized RJ15, Cond.code yJ15_checkIndex_7cf53 cJ15_checkIndex_7cf53 2 (some .int), Cond.methodLink RJ15 105 yJ3_checkIndex_8e157, Cond.static yJ3_checkIndex_8e157, Cond.initialized RJ3, Cond.code yJ3_checkIndex_8e157 cJ3_checkIndex_8e157 3 (some .int), Cond.methodLink RJx4a65c 123 yJx4a65c_elementData_915e3, Cond.instanceMethod yJx4a65c_elementData_915e3, Cond.selects RJx4a65c yJx4a65c_elementData_915e3 yJx4a65c_elementData_915e3, Cond.code yJx4a65c_elementData_915e3 cJx4a65c_elementData_915e3 2 (some (.object "java/lang/Object")), Cond.fieldLink RJx4a65c 9 "java/util/ArrayList" "elementData" "[Ljava/lang/Object;", Cond.methodLink RX4 173 yX4_currentRights, Cond.instanceMethod yX4_currentRights, Cond.selects RX4 yX4_currentRights yX4_currentRights, Cond.code yX4_currentRights cX4_currentRights 3 (some .int), Cond.fieldLink RX4 170 "ShareMover$Folder" "switched" "Z", Cond.fieldLink RX4 206 "ShareMover$Folder" "kept" "[I", Cond.methodLink RX4 118 yX4_rightsByEntries, Cond.instanceMethod yX4_rightsByEntries]
def wsL_rightsNow_r3 : List Cond := [Cond.selects RX4 yX4_rightsByEntries yX4_rightsByEntries, Cond.code yX4_rightsByEntries cX4_rightsByEntries 8 (some .int), Cond.fieldLink RX4 81 "ShareMover$Folder" "owner" "I", Cond.fieldLink RX4 99 "ShareMover$Folder" "row" "Ljava/util/ArrayList;", Cond.classLink RX4 104 "ShareMover$Entry", Cond.fieldLink RX4 193 "ShareMover$Entry" "allows" "Z", Cond.fieldLink RX4 115 "ShareMover$Entry" "rights" "I", Cond.methodLink RX4 185 yX0_counts, Cond.instanceMethod yX0_counts, Cond.selects RX0 yX0_counts yX0_counts, Cond.initialized RX0, Cond.code yX0_counts cX0_counts 2 (some .boolean), Cond.fieldLink RX0 22 "ShareMover$Entry" "scope" "I", Cond.methodLink RX4 189 yX4_isFor, Cond.instanceMethod yX4_isFor, Cond.selects RX4 yX4_isFor yX4_isFor, Cond.code yX4_isFor cX4_isFor 3 (some .boolean), Cond.fieldLink RX4 182 "ShareMover$Entry" "who" "I", Cond.fieldLink RX4 12 "ShareMover" "groups" "LShareMover$Groups;", Cond.methodLink RX4 68 yX2_everyoneIn, Cond.instanceMethod yX2_everyoneIn, Cond.selects RX2 yX2_everyoneIn yX2_everyoneIn, Cond.initialized RX2, Cond.code yX2_everyoneIn cX2_everyoneIn 2 (some .int)]
def wsL_rightsNow_r4 : List Cond := [Cond.fieldLink RX2 18 "ShareMover$Groups" "everyone" "[I", Cond.methodLink RX4 54 yX4_contains, Cond.static yX4_contains, Cond.code yX4_contains cX4_contains 2 (some .boolean), Cond.methodLink RX4 196 yX1_inheritsFrom, Cond.instanceMethod yX1_inheritsFrom, Cond.selects RX1 yX1_inheritsFrom yX1_inheritsFrom, Cond.initialized RX1, Cond.code yX1_inheritsFrom cX1_inheritsFrom 1 (some (.object "ShareMover$Folder")), Cond.fieldLink RX1 22 "ShareMover$Folder" "inherits" "Z", Cond.fieldLink RX1 32 "ShareMover$Folder" "parent" "LShareMover$Folder;"]
def wsL_rightsNow : List Cond := .codeWith yL_rightsNow cL_rightsNow 5 (some .int) [(0, 10, 13, 13)] :: ((wsL_rightsNow_r1 ++ (wsL_rightsNow_r2 ++ (wsL_rightsNow_r3 ++ wsL_rightsNow_r4))) ++ wsX40 ++ wsJx4a65c0 ++ wsX10 ++ wsX00 ++ wsX20 ++ (vx_atS RX4 93 "java/lang/IndexOutOfBoundsException" ["java/lang/RuntimeException", "java/lang/Exception"]).filter goodWord)
def wsL_gainers_r1 : List Cond := [Cond.classLink RL 13 "java/lang/IndexOutOfBoundsException", Cond.methodLink RL 79 yX4_gainers, Cond.instanceMethod yX4_gainers, Cond.selects RX4 yX4_gainers yX4_gainers, Cond.initialized RX4, Cond.code yX4_gainers cX4_gainers 5 (some .int), Cond.methodLink RX4 71 yX4_folderAt, Cond.instanceMethod yX4_folderAt, Cond.selects RX4 yX4_folderAt yX4_folderAt, Cond.code yX4_folderAt cX4_folderAt 2 (some (.object "ShareMover$Folder")), Cond.classLink RX4 89 "java/lang/IndexOutOfBoundsException", Cond.initialized "java/lang/IndexOutOfBoundsException", Cond.fieldLink RX4 19 "ShareMover" "tree" "Ljava/util/ArrayList;", Cond.classLink RX4 30 "ShareMover$Folder", Cond.methodLink RX4 75 yJx4a65c_size_8abf5, Cond.instanceMethod yJx4a65c_size_8abf5, Cond.selects RJx4a65c yJx4a65c_size_8abf5 yJx4a65c_size_8abf5, Cond.initialized RJx4a65c, Cond.code yJx4a65c_size_8abf5 cJx4a65c_size_8abf5 1 (some .int), Cond.fieldLink RJx4a65c 48 "java/util/ArrayList" "size" "I", Cond.methodLink RX4 155 yJx4a65c_get_915e3, Cond.instanceMethod yJx4a65c_get_915e3, Cond.selects RJx4a65c yJx4a65c_get_915e3 yJx4a65c_get_915e3, Cond.code yJx4a65c_get_915e3 cJx4a65c_get_915e3 2 (some (.object "java/lang/Object"))]
def wsL_gainers_r2 : List Cond := [Cond.methodLink RJx4a65c 118 yJ15_checkIndex_7cf53, Cond.static yJ15_checkIndex_7cf53, Cond.initialized RJ15, Cond.code yJ15_checkIndex_7cf53 cJ15_checkIndex_7cf53 2 (some .int), Cond.methodLink RJ15 105 yJ3_checkIndex_8e157, Cond.static yJ3_checkIndex_8e157, Cond.initialized RJ3, Cond.code yJ3_checkIndex_8e157 cJ3_checkIndex_8e157 3 (some .int), Cond.methodLink RJx4a65c 123 yJx4a65c_elementData_915e3, Cond.instanceMethod yJx4a65c_elementData_915e3, Cond.selects RJx4a65c yJx4a65c_elementData_915e3 yJx4a65c_elementData_915e3, Cond.code yJx4a65c_elementData_915e3 cJx4a65c_elementData_915e3 2 (some (.object "java/lang/Object")), Cond.fieldLink RJx4a65c 9 "java/util/ArrayList" "elementData" "[Ljava/lang/Object;", Cond.methodLink RX4 173 yX4_currentRights, Cond.instanceMethod yX4_currentRights, Cond.selects RX4 yX4_currentRights yX4_currentRights, Cond.code yX4_currentRights cX4_currentRights 3 (some .int), Cond.fieldLink RX4 170 "ShareMover$Folder" "switched" "Z", Cond.fieldLink RX4 206 "ShareMover$Folder" "kept" "[I", Cond.methodLink RX4 118 yX4_rightsByEntries, Cond.instanceMethod yX4_rightsByEntries, Cond.selects RX4 yX4_rightsByEntries yX4_rightsByEntries, Cond.code yX4_rightsByEntries cX4_rightsByEntries 8 (some .int), Cond.fieldLink RX4 81 "ShareMover$Folder" "owner" "I"]
def wsL_gainers_r3 : List Cond := [Cond.fieldLink RX4 99 "ShareMover$Folder" "row" "Ljava/util/ArrayList;", Cond.classLink RX4 104 "ShareMover$Entry", Cond.fieldLink RX4 193 "ShareMover$Entry" "allows" "Z", Cond.fieldLink RX4 115 "ShareMover$Entry" "rights" "I", Cond.methodLink RX4 185 yX0_counts, Cond.instanceMethod yX0_counts, Cond.selects RX0 yX0_counts yX0_counts, Cond.initialized RX0, Cond.code yX0_counts cX0_counts 2 (some .boolean), Cond.fieldLink RX0 22 "ShareMover$Entry" "scope" "I", Cond.methodLink RX4 189 yX4_isFor, Cond.instanceMethod yX4_isFor, Cond.selects RX4 yX4_isFor yX4_isFor, Cond.code yX4_isFor cX4_isFor 3 (some .boolean), Cond.fieldLink RX4 182 "ShareMover$Entry" "who" "I", Cond.fieldLink RX4 12 "ShareMover" "groups" "LShareMover$Groups;", Cond.methodLink RX4 68 yX2_everyoneIn, Cond.instanceMethod yX2_everyoneIn, Cond.selects RX2 yX2_everyoneIn yX2_everyoneIn, Cond.initialized RX2, Cond.code yX2_everyoneIn cX2_everyoneIn 2 (some .int), Cond.fieldLink RX2 18 "ShareMover$Groups" "everyone" "[I", Cond.methodLink RX4 54 yX4_contains, Cond.static yX4_contains]
def wsL_gainers_r4 : List Cond := [Cond.code yX4_contains cX4_contains 2 (some .boolean), Cond.methodLink RX4 196 yX1_inheritsFrom, Cond.instanceMethod yX1_inheritsFrom, Cond.selects RX1 yX1_inheritsFrom yX1_inheritsFrom, Cond.initialized RX1, Cond.code yX1_inheritsFrom cX1_inheritsFrom 1 (some (.object "ShareMover$Folder")), Cond.fieldLink RX1 22 "ShareMover$Folder" "inherits" "Z", Cond.fieldLink RX1 32 "ShareMover$Folder" "parent" "LShareMover$Folder;"]
def wsL_gainers : List Cond := .codeWith yL_gainers cL_gainers 4 (some .int) [(0, 9, 12, 13)] :: ((wsL_gainers_r1 ++ (wsL_gainers_r2 ++ (wsL_gainers_r3 ++ wsL_gainers_r4))) ++ wsX40 ++ wsJx4a65c0 ++ wsX10 ++ wsX00 ++ wsX20 ++ (vx_atS RX4 93 "java/lang/IndexOutOfBoundsException" ["java/lang/RuntimeException", "java/lang/Exception"]).filter goodWord)
def wsL_law0_r1 : List Cond := [Cond.classLink RL 8 RX4, Cond.instantiable RX4 3, Cond.initialized RX4, Cond.classLink RL 83 RX5, Cond.instantiable RX5 20, Cond.initialized RX5, Cond.arrayClass .long, Cond.methodLink RL 82 yX4_init, Cond.instanceMethod yX4_init, Cond.code yX4_init cX4_init 1 none, Cond.methodLink RX4 3 objectInit, Cond.instanceMethod objectInit, Cond.code objectInit ⟨#[0xb1]⟩ 1 none, Cond.classLink RX4 9 RX2, Cond.instantiable RX2 3, Cond.initialized RX2, Cond.fieldLink RX4 12 "ShareMover" "groups" "LShareMover$Groups;", Cond.classLink RX4 16 RJx4a65c, Cond.instantiable RJx4a65c 3, Cond.initialized RJx4a65c, Cond.fieldLink RX4 19 "ShareMover" "tree" "Ljava/util/ArrayList;", Cond.classLink RX4 23 RX3, Cond.instantiable RX3 7, Cond.initialized RX3]
def wsL_law0_r2 : List Cond := [Cond.fieldLink RX4 26 "ShareMover" "mapping" "LShareMover$Mapping;", Cond.classLink RX4 30 RX1, Cond.instantiable RX1 7, Cond.initialized RX1, Cond.instanceMethod yX2_init, Cond.code yX2_init cX2_init 1 none, Cond.methodLink RX2 3 objectInit, Cond.arrayClass .int, Cond.fieldLink RX2 9 "ShareMover$Groups" "ownPersons" "[I", Cond.fieldLink RX2 15 "ShareMover$Groups" "ownGroups" "[I", Cond.fieldLink RX2 18 "ShareMover$Groups" "everyone" "[I", Cond.methodLink RX4 18 yJx4a65c_init_da8c8, Cond.instanceMethod yJx4a65c_init_da8c8, Cond.code yJx4a65c_init_da8c8 cJx4a65c_init_da8c8 1 none, Cond.fieldLink RJx4a65c 39 "java/util/ArrayList" "DEFAULTCAPACITY_EMPTY_ELEMENTDATA" "[Ljava/lang/Object;", Cond.fieldLink RJx4a65c 9 "java/util/ArrayList" "elementData" "[Ljava/lang/Object;", Cond.methodLink RJx4a65c 1 yJxc12de_init_da8c8, Cond.instanceMethod yJxc12de_init_da8c8, Cond.initialized RJxc12de, Cond.code yJxc12de_init_da8c8 cJxc12de_init_da8c8 1 none, Cond.fieldLink RJxc12de 7 "java/util/AbstractList" "modCount" "I", Cond.methodLink RJxc12de 1 yJxa1e45_init_da8c8, Cond.instanceMethod yJxa1e45_init_da8c8, Cond.initialized RJxa1e45]
def wsL_law0_r3 : List Cond := [Cond.code yJxa1e45_init_da8c8 cJxa1e45_init_da8c8 1 none, Cond.methodLink RJxa1e45 1 objectInit, Cond.instanceMethod yX3_init, Cond.code yX3_init cX3_init 1 none, Cond.methodLink RX3 3 objectInit, Cond.fieldLink RX3 9 "ShareMover$Mapping" "held" "[I", Cond.fieldLink RX3 15 "ShareMover$Mapping" "given" "[I", Cond.fieldLink RX3 18 "ShareMover$Mapping" "group" "I", Cond.fieldLink RX3 22 "ShareMover$Mapping" "groupBits" "I", Cond.fieldLink RX3 25 "ShareMover$Mapping" "otherBits" "I", Cond.fieldLink RX3 28 "ShareMover$Mapping" "namedPersons" "I", Cond.fieldLink RX3 31 "ShareMover$Mapping" "lost" "I", Cond.methodLink RX4 32 yX1_init, Cond.instanceMethod yX1_init, Cond.code yX1_init cX1_init 3 none, Cond.methodLink RX1 3 objectInit, Cond.classLink RX1 9 RJx4a65c, Cond.fieldLink RX1 12 "ShareMover$Folder" "row" "Ljava/util/ArrayList;", Cond.fieldLink RX1 18 "ShareMover$Folder" "kept" "[I", Cond.fieldLink RX1 22 "ShareMover$Folder" "inherits" "Z", Cond.fieldLink RX1 26 "ShareMover$Folder" "hasKept" "Z", Cond.fieldLink RX1 29 "ShareMover$Folder" "switched" "Z", Cond.fieldLink RX1 32 "ShareMover$Folder" "parent" "LShareMover$Folder;", Cond.fieldLink RX1 36 "ShareMover$Folder" "owner" "I"]
def wsL_law0_r4 : List Cond := [Cond.methodLink RX1 11 yJx4a65c_init_da8c8, Cond.methodLink RX4 35 yJx4a65c_add_9ea2d, Cond.instanceMethod yJx4a65c_add_9ea2d, Cond.selects RJx4a65c yJx4a65c_add_9ea2d yJx4a65c_add_9ea2d, Cond.code yJx4a65c_add_9ea2d cJx4a65c_add_9ea2d 2 (some .boolean), Cond.fieldLink RJx4a65c 63 "java/util/ArrayList" "modCount" "I", Cond.sameField "java/util/ArrayList" "java/util/AbstractList" "modCount" "I", Cond.fieldLink RJx4a65c 48 "java/util/ArrayList" "size" "I", Cond.methodLink RJx4a65c 131 yJx4a65c_add_72be8, Cond.instanceMethod yJx4a65c_add_72be8, Cond.selects RJx4a65c yJx4a65c_add_72be8 yJx4a65c_add_72be8, Cond.code yJx4a65c_add_72be8 cJx4a65c_add_72be8 4 none, Cond.methodLink RJx4a65c 129 yJx4a65c_grow_d5877, Cond.instanceMethod yJx4a65c_grow_d5877, Cond.selects RJx4a65c yJx4a65c_grow_d5877 yJx4a65c_grow_d5877, Cond.code yJx4a65c_grow_d5877 cJx4a65c_grow_d5877 1 (some (.array (.object "java/lang/Object"))), Cond.methodLink RJx4a65c 69 yJx4a65c_grow_92f84, Cond.instanceMethod yJx4a65c_grow_92f84, Cond.selects RJx4a65c yJx4a65c_grow_92f84 yJx4a65c_grow_92f84, Cond.code yJx4a65c_grow_92f84 cJx4a65c_grow_92f84 4 (some (.array (.object "java/lang/Object"))), Cond.methodLink RJx4a65c 79 Lib.Math.max.name, Cond.static Lib.Math.max.name, Cond.initialized "java/lang/Math", Cond.code Lib.Math.max.name Lib.Math.max.code 2 (some .int)]
def wsL_law0_r5 : List Cond := [Cond.classLink RJx4a65c 7 "java/lang/Object", Cond.methodLink RJx4a65c 73 yJ8_newLength_cabcc, Cond.static yJ8_newLength_cabcc, Cond.initialized RJ8, Cond.code yJ8_newLength_cabcc cJ8_newLength_cabcc 4 (some .int), Cond.methodLink RJ8 194 Lib.Math.max.name, Cond.constant RJ8 200 (2147483639), Cond.methodLink RJ8 201 yJ8_hugeLength_7cf53, Cond.static yJ8_hugeLength_7cf53, Cond.code yJ8_hugeLength_7cf53 cJ8_hugeLength_7cf53 3 (some .int), Cond.methodLink RJx4a65c 66 yJ7_copyOf_1904c, Cond.static yJ7_copyOf_1904c, Cond.initialized RJ7, Cond.code yJ7_copyOf_1904c cJ7_copyOf_1904c 2 (some (.array (.object "java/lang/Object"))), Cond.methodLink RJ7 86 ⟨"java/lang/Object", "getClass", "()Ljava/lang/Class;"⟩, Cond.selects "[Ljava/lang/Object;" ⟨"java/lang/Object", "getClass", "()Ljava/lang/Class;"⟩ ⟨"java/lang/Object", "getClass", "()Ljava/lang/Class;"⟩, Cond.instanceMethod ⟨"java/lang/Object", "getClass", "()Ljava/lang/Class;"⟩, Cond.native ⟨"java/lang/Object", "getClass", "()Ljava/lang/Class;"⟩, Cond.methodLink RJ7 300 yJ7_copyOf_6403c, Cond.static yJ7_copyOf_6403c, Cond.code yJ7_copyOf_6403c cJ7_copyOf_6403c 4 (some (.array (.object "java/lang/Object"))), Cond.classLink RJ7 110 "[Ljava/lang/Object;", Cond.classLink RJ7 2 "java/lang/Object", Cond.methodLink RJ7 304 Lib.Math.min.name]
def wsL_law0_r6 : List Cond := [Cond.static Lib.Math.min.name, Cond.code Lib.Math.min.name Lib.Math.min.code 2 (some .int), Cond.methodLink RJ7 150 arraycopyName, Cond.native arraycopyName, Cond.static arraycopyName, Cond.initialized "java/lang/System", Cond.methodLink RL 85 yX5_init, Cond.instanceMethod yX5_init, Cond.code yX5_init cX5_init 1 none, Cond.methodLink RX5 1 objectInit, Cond.fieldLink RX5 7 "ShareMoverModel" "persons" "[I", Cond.fieldLink RX5 13 "ShareMoverModel" "inner" "[I", Cond.fieldLink RX5 16 "ShareMoverModel" "parent" "[I", Cond.fieldLink RX5 19 "ShareMoverModel" "owner" "[I", Cond.arrayClass .boolean, Cond.fieldLink RX5 22 "ShareMoverModel" "inherits" "[Z", Cond.fieldLink RX5 26 "ShareMoverModel" "entries" "[I", Cond.fieldLink RX5 29 "ShareMoverModel" "folders" "I", Cond.fieldLink RX5 33 "ShareMoverModel" "who" "[I", Cond.fieldLink RX5 36 "ShareMoverModel" "allows" "[Z", Cond.fieldLink RX5 39 "ShareMoverModel" "given" "[I", Cond.fieldLink RX5 42 "ShareMoverModel" "scope" "[I", Cond.fieldLink RX5 45 "ShareMoverModel" "own" "[I", Cond.fieldLink RX5 48 "ShareMoverModel" "mapped" "[I"]
def wsL_law0_r7 : List Cond := [Cond.fieldLink RX5 51 "ShareMoverModel" "isKept" "[Z", Cond.fieldLink RX5 54 "ShareMoverModel" "kept" "[I", Cond.fieldLink RX5 57 "ShareMoverModel" "turned" "[Z", Cond.methodLink RL 86 yL_setMember, Cond.static yL_setMember, Cond.initialized RL, Cond.codeWith yL_setMember cL_setMember 6 (some .int) [(0, 19, 22, 13)], Cond.classLink RL 13 "java/lang/IndexOutOfBoundsException", Cond.methodLink RL 7 yX4_setMember, Cond.instanceMethod yX4_setMember, Cond.selects RX4 yX4_setMember yX4_setMember, Cond.code yX4_setMember cX4_setMember 4 (some .boolean), Cond.methodLink RX4 39 yX4_refuseNoGroup, Cond.static yX4_refuseNoGroup, Cond.code yX4_refuseNoGroup cX4_refuseNoGroup 1 none, Cond.classLink RX4 89 "java/lang/IndexOutOfBoundsException", Cond.initialized "java/lang/IndexOutOfBoundsException", Cond.methodLink RX4 43 yX4_refuseNoPerson, Cond.static yX4_refuseNoPerson, Cond.code yX4_refuseNoPerson cX4_refuseNoPerson 1 none, Cond.methodLink RX4 46 yX2_put, Cond.instanceMethod yX2_put, Cond.selects RX2 yX2_put yX2_put, Cond.code yX2_put cX2_put 5 (some .boolean)]
def wsL_law0_r8 : List Cond := [Cond.static yX4_contains, Cond.code yX4_contains cX4_contains 2 (some .boolean), Cond.methodLink RX2 25 yX2_findEveryone, Cond.instanceMethod yX2_findEveryone, Cond.selects RX2 yX2_findEveryone yX2_findEveryone, Cond.code yX2_findEveryone cX2_findEveryone 5 none, Cond.methodLink RX2 28 yX2_reachedFrom, Cond.instanceMethod yX2_reachedFrom, Cond.selects RX2 yX2_reachedFrom yX2_reachedFrom, Cond.code yX2_reachedFrom cX2_reachedFrom 5 (some .int), Cond.methodLink RL 91 yX5_setMember, Cond.instanceMethod yX5_setMember, Cond.selects RX5 yX5_setMember yX5_setMember, Cond.code yX5_setMember cX5_setMember 5 (some .boolean), Cond.methodLink RX5 75 yX5_isGroup, Cond.static yX5_isGroup, Cond.code yX5_isGroup cX5_isGroup 1 (some .boolean), Cond.methodLink RX5 63 yX5_in, Cond.static yX5_in, Cond.code yX5_in cX5_in 3 (some .boolean), Cond.methodLink RX5 79 yX5_isPerson, Cond.static yX5_isPerson, Cond.code yX5_isPerson cX5_isPerson 1 (some .boolean), Cond.methodLink RX5 82 yX5_isFine]
def wsL_law0_r9 : List Cond := [Cond.instanceMethod yX5_isFine, Cond.selects RX5 yX5_isFine yX5_isFine, Cond.code yX5_isFine cX5_isFine 2 (some .boolean), Cond.fieldLink RX5 60 "ShareMoverModel" "thrown" "I", Cond.methodLink RX5 67 yX5_has, Cond.static yX5_has, Cond.code yX5_has cX5_has 2 (some .boolean), Cond.methodLink RL 92 yX5_thrown, Cond.instanceMethod yX5_thrown, Cond.selects RX5 yX5_thrown yX5_thrown, Cond.code yX5_thrown cX5_thrown 1 (some .int), Cond.methodLink RL 96 yL_nest, Cond.static yL_nest, Cond.codeWith yL_nest cL_nest 5 (some .int) [(0, 17, 20, 13), (0, 17, 24, 19)], Cond.classLink RL 19 "java/lang/IllegalStateException", Cond.methodLink RL 15 yX4_nest, Cond.instanceMethod yX4_nest, Cond.selects RX4 yX4_nest yX4_nest, Cond.code yX4_nest cX4_nest 3 (some .boolean), Cond.classLink RX4 58 "java/lang/IllegalStateException", Cond.initialized "java/lang/IllegalStateException", Cond.methodLink RX4 50 yX2_reachedFrom, Cond.methodLink RX4 54 yX4_contains, Cond.methodLink RX4 65 yX2_toggleInner]
def wsL_law0_r10 : List Cond := [Cond.instanceMethod yX2_toggleInner, Cond.selects RX2 yX2_toggleInner yX2_toggleInner, Cond.code yX2_toggleInner cX2_toggleInner 3 (some .boolean), Cond.methodLink RL 99 yX5_nest, Cond.instanceMethod yX5_nest, Cond.selects RX5 yX5_nest yX5_nest, Cond.code yX5_nest cX5_nest 4 (some .boolean), Cond.methodLink RX5 71 yX5_groupsIn, Cond.instanceMethod yX5_groupsIn, Cond.selects RX5 yX5_groupsIn yX5_groupsIn, Cond.code yX5_groupsIn cX5_groupsIn 5 (some .int), Cond.methodLink RL 100 yL_members, Cond.static yL_members, Cond.codeWith yL_members cL_members 4 (some .int) [(0, 9, 12, 13)], Cond.methodLink RL 21 yX4_members, Cond.instanceMethod yX4_members, Cond.selects RX4 yX4_members yX4_members, Cond.code yX4_members cX4_members 2 (some .int), Cond.methodLink RX4 68 yX2_everyoneIn, Cond.instanceMethod yX2_everyoneIn, Cond.selects RX2 yX2_everyoneIn yX2_everyoneIn, Cond.code yX2_everyoneIn cX2_everyoneIn 2 (some .int), Cond.methodLink RL 103 yX5_members, Cond.instanceMethod yX5_members]
def wsL_law0_r11 : List Cond := [Cond.selects RX5 yX5_members yX5_members, Cond.code yX5_members cX5_members 2 (some .int), Cond.methodLink RX5 85 yX5_membersOf, Cond.instanceMethod yX5_membersOf, Cond.selects RX5 yX5_membersOf yX5_membersOf, Cond.code yX5_membersOf cX5_membersOf 5 (some .int), Cond.methodLink RL 104 yL_addFolder, Cond.static yL_addFolder, Cond.codeWith yL_addFolder cL_addFolder 5 (some .int) [(0, 10, 13, 13), (0, 10, 17, 19)], Cond.methodLink RL 25 yX4_addFolder, Cond.instanceMethod yX4_addFolder, Cond.selects RX4 yX4_addFolder yX4_addFolder, Cond.code yX4_addFolder cX4_addFolder 4 (some .int), Cond.methodLink RX4 71 yX4_folderAt, Cond.instanceMethod yX4_folderAt, Cond.selects RX4 yX4_folderAt yX4_folderAt, Cond.code yX4_folderAt cX4_folderAt 2 (some (.object "ShareMover$Folder")), Cond.classLink RX4 30 "ShareMover$Folder", Cond.methodLink RX4 75 yJx4a65c_size_8abf5, Cond.instanceMethod yJx4a65c_size_8abf5, Cond.selects RJx4a65c yJx4a65c_size_8abf5 yJx4a65c_size_8abf5, Cond.code yJx4a65c_size_8abf5 cJx4a65c_size_8abf5 1 (some .int), Cond.methodLink RX4 155 yJx4a65c_get_915e3, Cond.instanceMethod yJx4a65c_get_915e3]
def wsL_law0_r12 : List Cond := [Cond.selects RJx4a65c yJx4a65c_get_915e3 yJx4a65c_get_915e3, Cond.code yJx4a65c_get_915e3 cJx4a65c_get_915e3 2 (some (.object "java/lang/Object")), Cond.methodLink RJx4a65c 118 yJ15_checkIndex_7cf53, Cond.static yJ15_checkIndex_7cf53, Cond.initialized RJ15, Cond.code yJ15_checkIndex_7cf53 cJ15_checkIndex_7cf53 2 (some .int), Cond.methodLink RJ15 105 yJ3_checkIndex_8e157, Cond.static yJ3_checkIndex_8e157, Cond.initialized RJ3, Cond.code yJ3_checkIndex_8e157 cJ3_checkIndex_8e157 3 (some .int), Cond.methodLink RJx4a65c 123 yJx4a65c_elementData_915e3, Cond.instanceMethod yJx4a65c_elementData_915e3, Cond.selects RJx4a65c yJx4a65c_elementData_915e3 yJx4a65c_elementData_915e3, Cond.code yJx4a65c_elementData_915e3 cJx4a65c_elementData_915e3 2 (some (.object "java/lang/Object")), Cond.methodLink RL 106 yX5_addFolder, Cond.instanceMethod yX5_addFolder, Cond.selects RX5 yX5_addFolder yX5_addFolder, Cond.code yX5_addFolder cX5_addFolder 3 (some .int), Cond.methodLink RX5 88 yX5_isFolder, Cond.instanceMethod yX5_isFolder, Cond.selects RX5 yX5_isFolder yX5_isFolder, Cond.code yX5_isFolder cX5_isFolder 2 (some .boolean), Cond.methodLink RL 107 yL_setOwner, Cond.static yL_setOwner]
def wsL_law0_r13 : List Cond := [Cond.codeWith yL_setOwner cL_setOwner 5 (some .int) [(0, 10, 13, 13)], Cond.methodLink RL 29 yX4_setOwner, Cond.instanceMethod yX4_setOwner, Cond.selects RX4 yX4_setOwner yX4_setOwner, Cond.code yX4_setOwner cX4_setOwner 5 (some .int), Cond.fieldLink RX4 81 "ShareMover$Folder" "owner" "I", Cond.methodLink RL 109 yX5_setOwner, Cond.instanceMethod yX5_setOwner, Cond.selects RX5 yX5_setOwner yX5_setOwner, Cond.code yX5_setOwner cX5_setOwner 4 (some .int), Cond.methodLink RL 110 yL_setInherits, Cond.static yL_setInherits, Cond.codeWith yL_setInherits cL_setInherits 5 (some .int) [(0, 17, 20, 13)], Cond.methodLink RL 32 yX4_setInherits, Cond.instanceMethod yX4_setInherits, Cond.selects RX4 yX4_setInherits yX4_setInherits, Cond.code yX4_setInherits cX4_setInherits 5 (some .boolean), Cond.fieldLink RX4 85 "ShareMover$Folder" "inherits" "Z", Cond.methodLink RL 113 yX5_setInherits, Cond.instanceMethod yX5_setInherits, Cond.selects RX5 yX5_setInherits yX5_setInherits, Cond.code yX5_setInherits cX5_setInherits 4 (some .boolean), Cond.methodLink RL 114 yL_allow, Cond.static yL_allow]
def wsL_law0_r14 : List Cond := [Cond.codeWith yL_allow cL_allow 8 (some .int) [(0, 16, 19, 13), (0, 16, 23, 40), (0, 16, 27, 19)], Cond.classLink RL 40 "java/lang/IllegalArgumentException", Cond.methodLink RL 36 yX4_allow, Cond.instanceMethod yX4_allow, Cond.selects RX4 yX4_allow yX4_allow, Cond.code yX4_allow cX4_allow 7 (some .int), Cond.classLink RX4 94 "java/lang/IllegalArgumentException", Cond.initialized "java/lang/IllegalArgumentException", Cond.fieldLink RX4 99 "ShareMover$Folder" "row" "Ljava/util/ArrayList;", Cond.classLink RX4 104 RX0, Cond.instantiable RX0 4, Cond.initialized RX0, Cond.methodLink RX4 106 yX0_init, Cond.instanceMethod yX0_init, Cond.code yX0_init cX0_init 5 none, Cond.methodLink RX0 3 objectInit, Cond.fieldLink RX0 9 "ShareMover$Entry" "who" "I", Cond.fieldLink RX0 15 "ShareMover$Entry" "allows" "Z", Cond.fieldLink RX0 19 "ShareMover$Entry" "rights" "I", Cond.fieldLink RX0 22 "ShareMover$Entry" "scope" "I", Cond.methodLink RL 117 yX5_allow, Cond.instanceMethod yX5_allow, Cond.selects RX5 yX5_allow yX5_allow, Cond.code yX5_allow cX5_allow 8 (some .int)]
def wsL_law0_r15 : List Cond := [Cond.methodLink RL 118 yL_drop, Cond.static yL_drop, Cond.codeWith yL_drop cL_drop 5 (some .int) [(0, 10, 13, 13)], Cond.methodLink RL 42 yX4_drop, Cond.instanceMethod yX4_drop, Cond.selects RX4 yX4_drop yX4_drop, Cond.code yX4_drop cX4_drop 4 (some .int), Cond.classLink RX4 104 "ShareMover$Entry", Cond.fieldLink RX4 115 "ShareMover$Entry" "rights" "I", Cond.methodLink RX4 111 yJx4a65c_remove_915e3, Cond.instanceMethod yJx4a65c_remove_915e3, Cond.selects RJx4a65c yJx4a65c_remove_915e3 yJx4a65c_remove_915e3, Cond.code yJx4a65c_remove_915e3 cJx4a65c_remove_915e3 4 (some (.object "java/lang/Object")), Cond.methodLink RJx4a65c 144 yJx4a65c_fastRemove_b59b0, Cond.instanceMethod yJx4a65c_fastRemove_b59b0, Cond.selects RJx4a65c yJx4a65c_fastRemove_b59b0 yJx4a65c_fastRemove_b59b0, Cond.code yJx4a65c_fastRemove_b59b0 cJx4a65c_fastRemove_b59b0 4 none, Cond.methodLink RJx4a65c 112 arraycopyName, Cond.methodLink RL 120 yX5_drop, Cond.instanceMethod yX5_drop, Cond.selects RX5 yX5_drop yX5_drop, Cond.code yX5_drop cX5_drop 5 (some .int), Cond.methodLink RL 121 yX4_folders, Cond.instanceMethod yX4_folders]
def wsL_law0_r16 : List Cond := [Cond.selects RX4 yX4_folders yX4_folders, Cond.code yX4_folders cX4_folders 1 (some .int), Cond.methodLink RL 124 yX5_folders, Cond.instanceMethod yX5_folders, Cond.selects RX5 yX5_folders yX5_folders, Cond.code yX5_folders cX5_folders 1 (some .int), Cond.methodLink RL 125 yL_rights, Cond.static yL_rights, Cond.codeWith yL_rights cL_rights 5 (some .int) [(0, 10, 13, 13)], Cond.methodLink RL 45 yX4_rights, Cond.instanceMethod yX4_rights, Cond.selects RX4 yX4_rights yX4_rights, Cond.code yX4_rights cX4_rights 3 (some .int), Cond.methodLink RX4 118 yX4_rightsByEntries, Cond.instanceMethod yX4_rightsByEntries, Cond.selects RX4 yX4_rightsByEntries yX4_rightsByEntries, Cond.code yX4_rightsByEntries cX4_rightsByEntries 8 (some .int), Cond.fieldLink RX4 193 "ShareMover$Entry" "allows" "Z", Cond.methodLink RX4 185 yX0_counts, Cond.instanceMethod yX0_counts, Cond.selects RX0 yX0_counts yX0_counts, Cond.code yX0_counts cX0_counts 2 (some .boolean), Cond.methodLink RX4 189 yX4_isFor, Cond.instanceMethod yX4_isFor]
def wsL_law0_r17 : List Cond := [Cond.selects RX4 yX4_isFor yX4_isFor, Cond.code yX4_isFor cX4_isFor 3 (some .boolean), Cond.fieldLink RX4 182 "ShareMover$Entry" "who" "I", Cond.methodLink RX4 196 yX1_inheritsFrom, Cond.instanceMethod yX1_inheritsFrom, Cond.selects RX1 yX1_inheritsFrom yX1_inheritsFrom, Cond.code yX1_inheritsFrom cX1_inheritsFrom 1 (some (.object "ShareMover$Folder")), Cond.methodLink RL 127 yX5_rights, Cond.instanceMethod yX5_rights, Cond.selects RX5 yX5_rights yX5_rights, Cond.code yX5_rights cX5_rights 3 (some .int), Cond.methodLink RX5 94 yX5_rightsOf, Cond.instanceMethod yX5_rightsOf, Cond.selects RX5 yX5_rightsOf yX5_rightsOf, Cond.code yX5_rightsOf cX5_rightsOf 9 (some .int), Cond.methodLink RX5 91 yX5_isFor, Cond.instanceMethod yX5_isFor, Cond.selects RX5 yX5_isFor yX5_isFor, Cond.code yX5_isFor cX5_isFor 3 (some .boolean), Cond.methodLink RL 128 yL_rightsBackwards, Cond.static yL_rightsBackwards, Cond.codeWith yL_rightsBackwards cL_rightsBackwards 5 (some .int) [(0, 10, 13, 13)], Cond.methodLink RL 48 yX4_rightsBackwards, Cond.instanceMethod yX4_rightsBackwards]
def wsL_law0_r18 : List Cond := [Cond.selects RX4 yX4_rightsBackwards yX4_rightsBackwards, Cond.code yX4_rightsBackwards cX4_rightsBackwards 3 (some .int), Cond.methodLink RX4 122 yX4_rightsByOverruling, Cond.instanceMethod yX4_rightsByOverruling, Cond.selects RX4 yX4_rightsByOverruling yX4_rightsByOverruling, Cond.code yX4_rightsByOverruling cX4_rightsByOverruling 8 (some .int), Cond.methodLink RX4 200 yX1_levelsInherited, Cond.instanceMethod yX1_levelsInherited, Cond.selects RX1 yX1_levelsInherited yX1_levelsInherited, Cond.code yX1_levelsInherited cX1_levelsInherited 3 (some .int), Cond.methodLink RX1 40 yX1_inheritsFrom, Cond.methodLink RX4 203 yX1_above, Cond.instanceMethod yX1_above, Cond.selects RX1 yX1_above yX1_above, Cond.code yX1_above cX1_above 4 (some (.object "ShareMover$Folder")), Cond.methodLink RL 130 yX5_rightsBackwards, Cond.instanceMethod yX5_rightsBackwards, Cond.selects RX5 yX5_rightsBackwards yX5_rightsBackwards, Cond.code yX5_rightsBackwards cX5_rightsBackwards 3 (some .int), Cond.methodLink RX5 98 yX5_rights, Cond.methodLink RL 131 yL_groupOf, Cond.static yL_groupOf, Cond.codeWith yL_groupOf cL_groupOf 4 (some .int) [(0, 9, 12, 13)], Cond.methodLink RL 51 yX4_groupOf]
def wsL_law0_r19 : List Cond := [Cond.instanceMethod yX4_groupOf, Cond.selects RX4 yX4_groupOf yX4_groupOf, Cond.code yX4_groupOf cX4_groupOf 2 (some .int), Cond.fieldLink RX4 129 "ShareMover$Mapping" "group" "I", Cond.methodLink RX4 125 yX4_mappingOf, Cond.instanceMethod yX4_mappingOf, Cond.selects RX4 yX4_mappingOf yX4_mappingOf, Cond.code yX4_mappingOf cX4_mappingOf 5 (some (.object "ShareMover$Mapping")), Cond.fieldLink RX4 145 "ShareMover$Mapping" "lost" "I", Cond.methodLink RX4 148 yX4_findHeld, Cond.instanceMethod yX4_findHeld, Cond.selects RX4 yX4_findHeld yX4_findHeld, Cond.code yX4_findHeld cX4_findHeld 3 none, Cond.fieldLink RX4 209 "ShareMover$Mapping" "held" "[I", Cond.methodLink RX4 152 yX4_mapWith, Cond.instanceMethod yX4_mapWith, Cond.selects RX4 yX4_mapWith yX4_mapWith, Cond.code yX4_mapWith cX4_mapWith 4 none, Cond.methodLink RX4 212 yX3_make, Cond.instanceMethod yX3_make, Cond.selects RX3 yX3_make yX3_make, Cond.code yX3_make cX3_make 5 none, Cond.methodLink RX3 34 yX3_findBits, Cond.instanceMethod yX3_findBits]
def wsL_law0_r20 : List Cond := [Cond.selects RX3 yX3_findBits yX3_findBits, Cond.code yX3_findBits cX3_findBits 5 none, Cond.methodLink RX3 42 yX3_sharedBy, Cond.instanceMethod yX3_sharedBy, Cond.selects RX3 yX3_sharedBy yX3_sharedBy, Cond.code yX3_sharedBy cX3_sharedBy 4 (some .int), Cond.methodLink RX3 50 yX3_lossOf, Cond.instanceMethod yX3_lossOf, Cond.selects RX3 yX3_lossOf yX3_lossOf, Cond.code yX3_lossOf cX3_lossOf 2 (some .int), Cond.methodLink RX3 53 yJ6_bitCount_0f7a4, Cond.static yJ6_bitCount_0f7a4, Cond.initialized RJ6, Cond.code yJ6_bitCount_0f7a4 cJ6_bitCount_0f7a4 1 (some .int), Cond.constant RJ6 265 (1431655765), Cond.constant RJ6 266 (858993459), Cond.constant RJ6 267 (252645135), Cond.methodLink RX3 38 yX3_greatestLoser, Cond.instanceMethod yX3_greatestLoser, Cond.selects RX3 yX3_greatestLoser yX3_greatestLoser, Cond.code yX3_greatestLoser cX3_greatestLoser 3 (some .int), Cond.methodLink RL 133 yX5_groupOf, Cond.instanceMethod yX5_groupOf, Cond.selects RX5 yX5_groupOf yX5_groupOf]
def wsL_law0_r21 : List Cond := [Cond.code yX5_groupOf cX5_groupOf 2 (some .int), Cond.methodLink RX5 122 yX5_mapsBest, Cond.instanceMethod yX5_mapsBest, Cond.selects RX5 yX5_mapsBest yX5_mapsBest, Cond.code yX5_mapsBest cX5_mapsBest 6 (some .int), Cond.methodLink RX5 119 yX5_maps, Cond.instanceMethod yX5_maps, Cond.selects RX5 yX5_maps yX5_maps, Cond.code yX5_maps cX5_maps 7 (some .int), Cond.fieldLink RX5 101 "ShareMoverModel" "named" "I", Cond.methodLink RX5 116 yX5_fits, Cond.instanceMethod yX5_fits, Cond.selects RX5 yX5_fits yX5_fits, Cond.code yX5_fits cX5_fits 7 (some .int), Cond.fieldLink RX5 107 "ShareMoverModel" "groupBits" "I", Cond.fieldLink RX5 110 "ShareMoverModel" "otherBits" "I", Cond.methodLink RX5 104 yX5_common, Cond.instanceMethod yX5_common, Cond.selects RX5 yX5_common yX5_common, Cond.code yX5_common cX5_common 4 (some .int), Cond.methodLink RX5 113 yX5_size, Cond.static yX5_size, Cond.code yX5_size cX5_size 3 (some .int), Cond.methodLink RL 134 yL_bits]
def wsL_law0_r22 : List Cond := [Cond.static yL_bits, Cond.codeWith yL_bits cL_bits 4 (some .int) [(0, 9, 12, 13)], Cond.methodLink RL 54 yX4_bits, Cond.instanceMethod yX4_bits, Cond.selects RX4 yX4_bits yX4_bits, Cond.code yX4_bits cX4_bits 3 (some .int), Cond.fieldLink RX4 132 "ShareMover$Mapping" "groupBits" "I", Cond.fieldLink RX4 135 "ShareMover$Mapping" "otherBits" "I", Cond.methodLink RL 136 yX5_bits, Cond.instanceMethod yX5_bits, Cond.selects RX5 yX5_bits yX5_bits, Cond.code yX5_bits cX5_bits 2 (some .int), Cond.methodLink RL 137 yL_named, Cond.static yL_named, Cond.codeWith yL_named cL_named 4 (some .int) [(0, 9, 12, 13)], Cond.methodLink RL 57 yX4_named, Cond.instanceMethod yX4_named, Cond.selects RX4 yX4_named yX4_named, Cond.code yX4_named cX4_named 2 (some .int), Cond.fieldLink RX4 138 "ShareMover$Mapping" "namedPersons" "I", Cond.methodLink RL 139 yX5_named, Cond.instanceMethod yX5_named, Cond.selects RX5 yX5_named yX5_named, Cond.code yX5_named cX5_named 2 (some .int)]
def wsL_law0_r23 : List Cond := [Cond.methodLink RL 140 yL_mapped, Cond.static yL_mapped, Cond.codeWith yL_mapped cL_mapped 5 (some .int) [(0, 10, 13, 13)], Cond.methodLink RL 60 yX4_mapped, Cond.instanceMethod yX4_mapped, Cond.selects RX4 yX4_mapped yX4_mapped, Cond.code yX4_mapped cX4_mapped 3 (some .int), Cond.fieldLink RX4 141 "ShareMover$Mapping" "given" "[I", Cond.methodLink RL 142 yX5_mapped, Cond.instanceMethod yX5_mapped, Cond.selects RX5 yX5_mapped yX5_mapped, Cond.code yX5_mapped cX5_mapped 3 (some .int), Cond.methodLink RL 143 yL_loss, Cond.static yL_loss, Cond.codeWith yL_loss cL_loss 4 (some .int) [(0, 9, 12, 13)], Cond.methodLink RL 63 yX4_loss, Cond.instanceMethod yX4_loss, Cond.selects RX4 yX4_loss yX4_loss, Cond.code yX4_loss cX4_loss 2 (some .int), Cond.methodLink RL 145 yX5_loss, Cond.instanceMethod yX5_loss, Cond.selects RX5 yX5_loss yX5_loss, Cond.code yX5_loss cX5_loss 2 (some .int), Cond.methodLink RL 146 yL_lossWith]
def wsL_law0_r24 : List Cond := [Cond.static yL_lossWith, Cond.codeWith yL_lossWith cL_lossWith 5 (some .int) [(0, 10, 13, 13)], Cond.methodLink RL 66 yX4_lossWith, Cond.instanceMethod yX4_lossWith, Cond.selects RX4 yX4_lossWith yX4_lossWith, Cond.code yX4_lossWith cX4_lossWith 4 (some .int), Cond.methodLink RL 148 yX5_lossWith, Cond.instanceMethod yX5_lossWith, Cond.selects RX5 yX5_lossWith yX5_lossWith, Cond.code yX5_lossWith cX5_lossWith 3 (some .int), Cond.methodLink RL 149 yX4_pass, Cond.instanceMethod yX4_pass, Cond.selects RX4 yX4_pass yX4_pass, Cond.code yX4_pass cX4_pass 4 (some .int), Cond.methodLink RX4 158 yX1_keep, Cond.instanceMethod yX1_keep, Cond.selects RX1 yX1_keep yX1_keep, Cond.code yX1_keep cX1_keep 3 (some .boolean), Cond.methodLink RX1 48 arraycopyName, Cond.methodLink RX1 44 yX1_keeps, Cond.instanceMethod yX1_keeps, Cond.selects RX1 yX1_keeps yX1_keeps, Cond.code yX1_keeps cX1_keeps 3 (some .boolean), Cond.methodLink RL 152 yX5_pass]
def wsL_law0_r25 : List Cond := [Cond.instanceMethod yX5_pass, Cond.selects RX5 yX5_pass yX5_pass, Cond.code yX5_pass cX5_pass 5 (some .int), Cond.methodLink RL 153 yL_isFresh, Cond.static yL_isFresh, Cond.codeWith yL_isFresh cL_isFresh 4 (some .int) [(0, 16, 19, 13)], Cond.methodLink RL 69 yX4_isFresh, Cond.instanceMethod yX4_isFresh, Cond.selects RX4 yX4_isFresh yX4_isFresh, Cond.code yX4_isFresh cX4_isFresh 3 (some .boolean), Cond.methodLink RX4 162 yX1_keeps, Cond.methodLink RL 155 yX5_isFresh, Cond.instanceMethod yX5_isFresh, Cond.selects RX5 yX5_isFresh yX5_isFresh, Cond.code yX5_isFresh cX5_isFresh 4 (some .boolean), Cond.methodLink RL 156 yL_turn, Cond.static yL_turn, Cond.codeWith yL_turn cL_turn 4 (some .int) [(0, 16, 19, 13), (0, 16, 22, 19)], Cond.methodLink RL 73 yX4_turn, Cond.instanceMethod yX4_turn, Cond.selects RX4 yX4_turn yX4_turn, Cond.code yX4_turn cX4_turn 3 (some .boolean), Cond.fieldLink RX4 165 "ShareMover$Folder" "hasKept" "Z", Cond.fieldLink RX4 170 "ShareMover$Folder" "switched" "Z"]
def wsL_law0_r26 : List Cond := [Cond.methodLink RL 158 yX5_turn, Cond.instanceMethod yX5_turn, Cond.selects RX5 yX5_turn yX5_turn, Cond.code yX5_turn cX5_turn 2 (some .boolean), Cond.methodLink RL 159 yL_rightsNow, Cond.static yL_rightsNow, Cond.codeWith yL_rightsNow cL_rightsNow 5 (some .int) [(0, 10, 13, 13)], Cond.methodLink RL 76 yX4_rightsNow, Cond.instanceMethod yX4_rightsNow, Cond.selects RX4 yX4_rightsNow yX4_rightsNow, Cond.code yX4_rightsNow cX4_rightsNow 3 (some .int), Cond.methodLink RX4 173 yX4_currentRights, Cond.instanceMethod yX4_currentRights, Cond.selects RX4 yX4_currentRights yX4_currentRights, Cond.code yX4_currentRights cX4_currentRights 3 (some .int), Cond.fieldLink RX4 206 "ShareMover$Folder" "kept" "[I", Cond.methodLink RL 161 yX5_rightsNow, Cond.instanceMethod yX5_rightsNow, Cond.selects RX5 yX5_rightsNow yX5_rightsNow, Cond.code yX5_rightsNow cX5_rightsNow 3 (some .int), Cond.methodLink RX5 125 yX5_now, Cond.instanceMethod yX5_now, Cond.selects RX5 yX5_now yX5_now, Cond.code yX5_now cX5_now 3 (some .int)]
def wsL_law0_r27 : List Cond := [Cond.methodLink RL 162 yL_gainers, Cond.static yL_gainers, Cond.codeWith yL_gainers cL_gainers 4 (some .int) [(0, 9, 12, 13)], Cond.methodLink RL 79 yX4_gainers, Cond.instanceMethod yX4_gainers, Cond.selects RX4 yX4_gainers yX4_gainers, Cond.code yX4_gainers cX4_gainers 5 (some .int), Cond.methodLink RL 164 yX5_gainers, Cond.instanceMethod yX5_gainers, Cond.selects RX5 yX5_gainers yX5_gainers, Cond.code yX5_gainers cX5_gainers 4 (some .int)]
def wsL_law0 : List Cond := (wsL_law0_r1 ++ (wsL_law0_r2 ++ (wsL_law0_r3 ++ (wsL_law0_r4 ++ (wsL_law0_r5 ++ (wsL_law0_r6 ++ (wsL_law0_r7 ++ (wsL_law0_r8 ++ (wsL_law0_r9 ++ (wsL_law0_r10 ++ (wsL_law0_r11 ++ (wsL_law0_r12 ++ (wsL_law0_r13 ++ (wsL_law0_r14 ++ (wsL_law0_r15 ++ (wsL_law0_r16 ++ (wsL_law0_r17 ++ (wsL_law0_r18 ++ (wsL_law0_r19 ++ (wsL_law0_r20 ++ (wsL_law0_r21 ++ (wsL_law0_r22 ++ (wsL_law0_r23 ++ (wsL_law0_r24 ++ (wsL_law0_r25 ++ (wsL_law0_r26 ++ wsL_law0_r27)))))))))))))))))))))))))) ++ wsX40 ++ wsX50 ++ wsX20 ++ wsJx4a65c0 ++ wsX30 ++ wsX10 ++ wsX00 ++ ([] : List Cond)
def wsL_law : List Cond := wsL_law0 ++ (vx_atS RX4 93 "java/lang/IndexOutOfBoundsException" ["java/lang/RuntimeException", "java/lang/Exception"]).filter goodWord ++ (vx_atS RX4 62 "java/lang/IllegalStateException" ["java/lang/RuntimeException", "java/lang/Exception"]).filter goodWord ++ (vx_atS RX4 98 "java/lang/IllegalArgumentException" ["java/lang/RuntimeException", "java/lang/Exception"]).filter goodWord
theorem inJx145de : ∀ w ∈ wsJx145de0, w ∈ lw_tbl := by decide +kernel
theorem inJx8e188 : ∀ w ∈ wsJx8e1880, w ∈ lw_tbl := by decide +kernel
theorem inJ6 : ∀ w ∈ wsJ60, w ∈ lw_tbl := by decide +kernel
theorem inJxab1ab : ∀ w ∈ wsJxab1ab0, w ∈ lw_tbl := by decide +kernel
theorem inJ9 : ∀ w ∈ wsJ90, w ∈ lw_tbl := by decide +kernel
theorem inJ0 : ∀ w ∈ wsJ00, w ∈ lw_tbl := by decide +kernel
theorem inJ10 : ∀ w ∈ wsJ100, w ∈ lw_tbl := by decide +kernel
theorem inJxa1e45 : ∀ w ∈ wsJxa1e450, w ∈ lw_tbl := by decide +kernel
theorem inJxc12de : ∀ w ∈ wsJxc12de0, w ∈ lw_tbl := by decide +kernel
theorem inJ7 : ∀ w ∈ wsJ70, w ∈ lw_tbl := by decide +kernel
theorem inJx5ef63 : ∀ w ∈ wsJx5ef630, w ∈ lw_tbl := by decide +kernel
theorem inJxbd725 : ∀ w ∈ wsJxbd7250, w ∈ lw_tbl := by decide +kernel
theorem inJ15 : ∀ w ∈ wsJ150, w ∈ lw_tbl := by decide +kernel
theorem inJxf0a74 : ∀ w ∈ wsJxf0a740, w ∈ lw_tbl := by decide +kernel
theorem inJxa66e6 : ∀ w ∈ wsJxa66e60, w ∈ lw_tbl := by decide +kernel
theorem inJ8 : ∀ w ∈ wsJ80, w ∈ lw_tbl := by decide +kernel
theorem inJ3 : ∀ w ∈ wsJ30, w ∈ lw_tbl := by decide +kernel
abbrev vwCl : List vw_C := [(RJx4a65c, TJx4a65c, 3), (RX0, TX0, 4), (RX1, TX1, 7), (RX2, TX2, 3), (RX3, TX3, 7), (RX4, TX4, 3), (RX5, TX5, 20)]
end
section
theorem dX0_init_0 : decode cX0_init 0 = .ok (.aload_n 0, 1) := by decide +kernel
theorem dX0_init_1 : decode cX0_init 1 = .ok (.invokespecial 3, 3) := by decide +kernel
theorem dX0_init_4 : decode cX0_init 4 = .ok (.aload_n 0, 1) := by decide +kernel
theorem dX0_init_5 : decode cX0_init 5 = .ok (.iload_n 1, 1) := by decide +kernel
theorem dX0_init_6 : decode cX0_init 6 = .ok (.putfield 9, 3) := by decide +kernel
theorem dX0_init_9 : decode cX0_init 9 = .ok (.aload_n 0, 1) := by decide +kernel
theorem dX0_init_10 : decode cX0_init 10 = .ok (.iload_n 2, 1) := by decide +kernel
theorem dX0_init_11 : decode cX0_init 11 = .ok (.putfield 15, 3) := by decide +kernel
theorem dX0_init_14 : decode cX0_init 14 = .ok (.aload_n 0, 1) := by decide +kernel
theorem dX0_init_15 : decode cX0_init 15 = .ok (.iload_n 3, 1) := by decide +kernel
theorem dX0_init_16 : decode cX0_init 16 = .ok (.putfield 19, 3) := by decide +kernel
theorem dX0_init_19 : decode cX0_init 19 = .ok (.aload_n 0, 1) := by decide +kernel
theorem dX0_init_20 : decode cX0_init 20 = .ok (.iload 4, 2) := by decide +kernel
theorem dX0_init_22 : decode cX0_init 22 = .ok (.putfield 22, 3) := by decide +kernel
theorem dX0_init_25 : decode cX0_init 25 = .ok (.return_, 1) := by decide +kernel
theorem dX0_counts_0 : decode cX0_counts 0 = .ok (.aload_n 0, 1) := by decide +kernel
theorem dX0_counts_1 : decode cX0_counts 1 = .ok (.getfield 22, 3) := by decide +kernel
theorem dX0_counts_4 : decode cX0_counts 4 = .ok (.iload_n 1, 1) := by decide +kernel
theorem dX0_counts_5 : decode cX0_counts 5 = .ok (.ifCond .eq 7, 3) := by decide +kernel
theorem dX0_counts_8 : decode cX0_counts 8 = .ok (.iconst 1, 1) := by decide +kernel
theorem dX0_counts_9 : decode cX0_counts 9 = .ok (.goto 4, 3) := by decide +kernel
theorem dX0_counts_12 : decode cX0_counts 12 = .ok (.iconst 0, 1) := by decide +kernel
theorem dX0_counts_13 : decode cX0_counts 13 = .ok (.if_icmp .eq 7, 3) := by decide +kernel
theorem dX0_counts_16 : decode cX0_counts 16 = .ok (.iconst 1, 1) := by decide +kernel
theorem dX0_counts_17 : decode cX0_counts 17 = .ok (.goto 4, 3) := by decide +kernel
theorem dX0_counts_20 : decode cX0_counts 20 = .ok (.iconst 0, 1) := by decide +kernel
theorem dX0_counts_21 : decode cX0_counts 21 = .ok (.ireturn, 1) := by decide +kernel
set_option maxRecDepth 20000 in
theorem ggX1_init_Jx4a65c_init_da8c8 : GoodIn wsX1_init wsJx4a65c_init_da8c8 := goodIn_r _ [17, 18, 19, 20, 21, 22, 23, 24, 25, 26, 27, 28, 29, 2, 3, 30, 31, 32] (by decide +kernel) (by decide +kernel)
set_option maxRecDepth 20000 in
theorem gX1_init_Jx4a65c_init_da8c8 : GoodIn wsX1_init (wsJx4a65c_init_da8c8) := ggX1_init_Jx4a65c_init_da8c8
theorem dX1_init_0 : decode cX1_init 0 = .ok (.aload_n 0, 1) := by decide +kernel
theorem dX1_init_1 : decode cX1_init 1 = .ok (.invokespecial 3, 3) := by decide +kernel
theorem dX1_init_4 : decode cX1_init 4 = .ok (.aload_n 0, 1) := by decide +kernel
theorem dX1_init_5 : decode cX1_init 5 = .ok (.new 9, 3) := by decide +kernel
theorem dX1_init_8 : decode cX1_init 8 = .ok (.dup, 1) := by decide +kernel
theorem dX1_init_9 : decode cX1_init 9 = .ok (.invokespecial 11, 3) := by decide +kernel
theorem dX1_init_12 : decode cX1_init 12 = .ok (.putfield 12, 3) := by decide +kernel
theorem dX1_init_15 : decode cX1_init 15 = .ok (.aload_n 0, 1) := by decide +kernel
theorem dX1_init_16 : decode cX1_init 16 = .ok (.bipush 8, 2) := by decide +kernel
theorem dX1_init_18 : decode cX1_init 18 = .ok (.newarray .int, 2) := by decide +kernel
theorem dX1_init_20 : decode cX1_init 20 = .ok (.putfield 18, 3) := by decide +kernel
theorem dX1_init_23 : decode cX1_init 23 = .ok (.aload_n 0, 1) := by decide +kernel
theorem dX1_init_24 : decode cX1_init 24 = .ok (.iconst 1, 1) := by decide +kernel
theorem dX1_init_25 : decode cX1_init 25 = .ok (.putfield 22, 3) := by decide +kernel
theorem dX1_init_28 : decode cX1_init 28 = .ok (.aload_n 0, 1) := by decide +kernel
theorem dX1_init_29 : decode cX1_init 29 = .ok (.iconst 0, 1) := by decide +kernel
theorem dX1_init_30 : decode cX1_init 30 = .ok (.putfield 26, 3) := by decide +kernel
theorem dX1_init_33 : decode cX1_init 33 = .ok (.aload_n 0, 1) := by decide +kernel
theorem dX1_init_34 : decode cX1_init 34 = .ok (.iconst 0, 1) := by decide +kernel
theorem dX1_init_35 : decode cX1_init 35 = .ok (.putfield 29, 3) := by decide +kernel
theorem dX1_init_38 : decode cX1_init 38 = .ok (.aload_n 0, 1) := by decide +kernel
theorem dX1_init_39 : decode cX1_init 39 = .ok (.aload_n 1, 1) := by decide +kernel
theorem dX1_init_40 : decode cX1_init 40 = .ok (.putfield 32, 3) := by decide +kernel
theorem dX1_init_43 : decode cX1_init 43 = .ok (.aload_n 0, 1) := by decide +kernel
theorem dX1_init_44 : decode cX1_init 44 = .ok (.iload_n 2, 1) := by decide +kernel
theorem dX1_init_45 : decode cX1_init 45 = .ok (.putfield 36, 3) := by decide +kernel
theorem dX1_init_48 : decode cX1_init 48 = .ok (.return_, 1) := by decide +kernel
theorem dX1_inheritsFrom_0 : decode cX1_inheritsFrom 0 = .ok (.aload_n 0, 1) := by decide +kernel
theorem dX1_inheritsFrom_1 : decode cX1_inheritsFrom 1 = .ok (.getfield 22, 3) := by decide +kernel
theorem dX1_inheritsFrom_4 : decode cX1_inheritsFrom 4 = .ok (.ifCond .eq 10, 3) := by decide +kernel
theorem dX1_inheritsFrom_7 : decode cX1_inheritsFrom 7 = .ok (.aload_n 0, 1) := by decide +kernel
theorem dX1_inheritsFrom_8 : decode cX1_inheritsFrom 8 = .ok (.getfield 32, 3) := by decide +kernel
theorem dX1_inheritsFrom_11 : decode cX1_inheritsFrom 11 = .ok (.goto 4, 3) := by decide +kernel
theorem dX1_inheritsFrom_14 : decode cX1_inheritsFrom 14 = .ok (.aconst_null, 1) := by decide +kernel
theorem dX1_inheritsFrom_15 : decode cX1_inheritsFrom 15 = .ok (.areturn, 1) := by decide +kernel
set_option maxRecDepth 20000 in
theorem ggX1_levelsInherited_X1_inheritsFrom : GoodIn wsX1_levelsInherited wsX1_inheritsFrom := goodIn_r _ [5, 6, 7, 8, 9, 10, 11, 12, 13, 14] (by decide +kernel) (by decide +kernel)
set_option maxRecDepth 20000 in
theorem gX1_levelsInherited_X1_inheritsFrom : GoodIn wsX1_levelsInherited (wsV RX1 40 RX1 yX1_inheritsFrom wsX1_inheritsFrom) := goodIn_app (goodIn_of _ (by decide +kernel)) ggX1_levelsInherited_X1_inheritsFrom
theorem dX1_levelsInherited_0 : decode cX1_levelsInherited 0 = .ok (.iconst 0, 1) := by decide +kernel
theorem dX1_levelsInherited_1 : decode cX1_levelsInherited 1 = .ok (.istore_n 1, 1) := by decide +kernel
theorem dX1_levelsInherited_2 : decode cX1_levelsInherited 2 = .ok (.aload_n 0, 1) := by decide +kernel
theorem dX1_levelsInherited_3 : decode cX1_levelsInherited 3 = .ok (.invokevirtual 40, 3) := by decide +kernel
theorem dX1_levelsInherited_6 : decode cX1_levelsInherited 6 = .ok (.astore_n 2, 1) := by decide +kernel
theorem dX1_levelsInherited_7 : decode cX1_levelsInherited 7 = .ok (.aload_n 2, 1) := by decide +kernel
theorem dX1_levelsInherited_8 : decode cX1_levelsInherited 8 = .ok (.ifnull 14, 3) := by decide +kernel
theorem dX1_levelsInherited_11 : decode cX1_levelsInherited 11 = .ok (.iinc 1 1, 3) := by decide +kernel
theorem dX1_levelsInherited_14 : decode cX1_levelsInherited 14 = .ok (.aload_n 2, 1) := by decide +kernel
theorem dX1_levelsInherited_15 : decode cX1_levelsInherited 15 = .ok (.invokevirtual 40, 3) := by decide +kernel
theorem dX1_levelsInherited_18 : decode cX1_levelsInherited 18 = .ok (.astore_n 2, 1) := by decide +kernel
theorem dX1_levelsInherited_19 : decode cX1_levelsInherited 19 = .ok (.goto (-12), 3) := by decide +kernel
theorem dX1_levelsInherited_22 : decode cX1_levelsInherited 22 = .ok (.iload_n 1, 1) := by decide +kernel
theorem dX1_levelsInherited_23 : decode cX1_levelsInherited 23 = .ok (.ireturn, 1) := by decide +kernel
theorem dX1_above_0 : decode cX1_above 0 = .ok (.aload_n 0, 1) := by decide +kernel
theorem dX1_above_1 : decode cX1_above 1 = .ok (.astore_n 2, 1) := by decide +kernel
theorem dX1_above_2 : decode cX1_above 2 = .ok (.iconst 0, 1) := by decide +kernel
theorem dX1_above_3 : decode cX1_above 3 = .ok (.istore_n 3, 1) := by decide +kernel
theorem dX1_above_4 : decode cX1_above 4 = .ok (.iload_n 3, 1) := by decide +kernel
theorem dX1_above_5 : decode cX1_above 5 = .ok (.iload_n 1, 1) := by decide +kernel
theorem dX1_above_6 : decode cX1_above 6 = .ok (.if_icmp .ge 21, 3) := by decide +kernel
theorem dX1_above_9 : decode cX1_above 9 = .ok (.aload_n 2, 1) := by decide +kernel
theorem dX1_above_10 : decode cX1_above 10 = .ok (.getfield 32, 3) := by decide +kernel
theorem dX1_above_13 : decode cX1_above 13 = .ok (.ifnull 14, 3) := by decide +kernel
theorem dX1_above_16 : decode cX1_above 16 = .ok (.aload_n 2, 1) := by decide +kernel
theorem dX1_above_17 : decode cX1_above 17 = .ok (.getfield 32, 3) := by decide +kernel
theorem dX1_above_20 : decode cX1_above 20 = .ok (.astore_n 2, 1) := by decide +kernel
theorem dX1_above_21 : decode cX1_above 21 = .ok (.iinc 3 1, 3) := by decide +kernel
theorem dX1_above_24 : decode cX1_above 24 = .ok (.goto (-20), 3) := by decide +kernel
theorem dX1_above_27 : decode cX1_above 27 = .ok (.aload_n 2, 1) := by decide +kernel
theorem dX1_above_28 : decode cX1_above 28 = .ok (.areturn, 1) := by decide +kernel
theorem dX1_keeps_0 : decode cX1_keeps 0 = .ok (.aload_n 0, 1) := by decide +kernel
theorem dX1_keeps_1 : decode cX1_keeps 1 = .ok (.getfield 26, 3) := by decide +kernel
theorem dX1_keeps_4 : decode cX1_keeps 4 = .ok (.ifCond .ne 5, 3) := by decide +kernel
theorem dX1_keeps_7 : decode cX1_keeps 7 = .ok (.iconst 0, 1) := by decide +kernel
theorem dX1_keeps_8 : decode cX1_keeps 8 = .ok (.ireturn, 1) := by decide +kernel
theorem dX1_keeps_9 : decode cX1_keeps 9 = .ok (.iconst 0, 1) := by decide +kernel
theorem dX1_keeps_10 : decode cX1_keeps 10 = .ok (.istore_n 2, 1) := by decide +kernel
theorem dX1_keeps_11 : decode cX1_keeps 11 = .ok (.iload_n 2, 1) := by decide +kernel
theorem dX1_keeps_12 : decode cX1_keeps 12 = .ok (.bipush 8, 2) := by decide +kernel
theorem dX1_keeps_14 : decode cX1_keeps 14 = .ok (.if_icmp .ge 23, 3) := by decide +kernel
theorem dX1_keeps_17 : decode cX1_keeps 17 = .ok (.aload_n 0, 1) := by decide +kernel
theorem dX1_keeps_18 : decode cX1_keeps 18 = .ok (.getfield 18, 3) := by decide +kernel
theorem dX1_keeps_21 : decode cX1_keeps 21 = .ok (.iload_n 2, 1) := by decide +kernel
theorem dX1_keeps_22 : decode cX1_keeps 22 = .ok (.iaload, 1) := by decide +kernel
theorem dX1_keeps_23 : decode cX1_keeps 23 = .ok (.aload_n 1, 1) := by decide +kernel
theorem dX1_keeps_24 : decode cX1_keeps 24 = .ok (.iload_n 2, 1) := by decide +kernel
theorem dX1_keeps_25 : decode cX1_keeps 25 = .ok (.iaload, 1) := by decide +kernel
theorem dX1_keeps_26 : decode cX1_keeps 26 = .ok (.if_icmp .eq 5, 3) := by decide +kernel
theorem dX1_keeps_29 : decode cX1_keeps 29 = .ok (.iconst 0, 1) := by decide +kernel
theorem dX1_keeps_30 : decode cX1_keeps 30 = .ok (.ireturn, 1) := by decide +kernel
theorem dX1_keeps_31 : decode cX1_keeps 31 = .ok (.iinc 2 1, 3) := by decide +kernel
theorem dX1_keeps_34 : decode cX1_keeps 34 = .ok (.goto (-23), 3) := by decide +kernel
theorem dX1_keeps_37 : decode cX1_keeps 37 = .ok (.iconst 1, 1) := by decide +kernel
theorem dX1_keeps_38 : decode cX1_keeps 38 = .ok (.ireturn, 1) := by decide +kernel
set_option maxRecDepth 20000 in
theorem ggX1_keep_X1_keeps : GoodIn wsX1_keep wsX1_keeps := goodIn_r _ [11, 6, 1, 12, 13, 14, 15, 16, 17, 18] (by decide +kernel) (by decide +kernel)
set_option maxRecDepth 20000 in
theorem gX1_keep_X1_keeps : GoodIn wsX1_keep (wsV RX1 44 RX1 yX1_keeps wsX1_keeps) := goodIn_app (goodIn_of _ (by decide +kernel)) ggX1_keep_X1_keeps
theorem dX1_keep_0 : decode cX1_keep 0 = .ok (.aload_n 0, 1) := by decide +kernel
theorem dX1_keep_1 : decode cX1_keep 1 = .ok (.aload_n 1, 1) := by decide +kernel
theorem dX1_keep_2 : decode cX1_keep 2 = .ok (.invokevirtual 44, 3) := by decide +kernel
theorem dX1_keep_5 : decode cX1_keep 5 = .ok (.ifCond .ne 7, 3) := by decide +kernel
theorem dX1_keep_8 : decode cX1_keep 8 = .ok (.iconst 1, 1) := by decide +kernel
theorem dX1_keep_9 : decode cX1_keep 9 = .ok (.goto 4, 3) := by decide +kernel
theorem dX1_keep_12 : decode cX1_keep 12 = .ok (.iconst 0, 1) := by decide +kernel
theorem dX1_keep_13 : decode cX1_keep 13 = .ok (.istore_n 2, 1) := by decide +kernel
theorem dX1_keep_14 : decode cX1_keep 14 = .ok (.aload_n 1, 1) := by decide +kernel
theorem dX1_keep_15 : decode cX1_keep 15 = .ok (.iconst 0, 1) := by decide +kernel
theorem dX1_keep_16 : decode cX1_keep 16 = .ok (.aload_n 0, 1) := by decide +kernel
theorem dX1_keep_17 : decode cX1_keep 17 = .ok (.getfield 18, 3) := by decide +kernel
theorem dX1_keep_20 : decode cX1_keep 20 = .ok (.iconst 0, 1) := by decide +kernel
theorem dX1_keep_21 : decode cX1_keep 21 = .ok (.bipush 8, 2) := by decide +kernel
theorem dX1_keep_23 : decode cX1_keep 23 = .ok (.invokestatic 48, 3) := by decide +kernel
theorem dX1_keep_26 : decode cX1_keep 26 = .ok (.aload_n 0, 1) := by decide +kernel
theorem dX1_keep_27 : decode cX1_keep 27 = .ok (.iconst 1, 1) := by decide +kernel
theorem dX1_keep_28 : decode cX1_keep 28 = .ok (.putfield 26, 3) := by decide +kernel
theorem dX1_keep_31 : decode cX1_keep 31 = .ok (.iload_n 2, 1) := by decide +kernel
theorem dX1_keep_32 : decode cX1_keep 32 = .ok (.ireturn, 1) := by decide +kernel
theorem dX2_init_0 : decode cX2_init 0 = .ok (.aload_n 0, 1) := by decide +kernel
theorem dX2_init_1 : decode cX2_init 1 = .ok (.invokespecial 3, 3) := by decide +kernel
theorem dX2_init_4 : decode cX2_init 4 = .ok (.aload_n 0, 1) := by decide +kernel
theorem dX2_init_5 : decode cX2_init 5 = .ok (.bipush 6, 2) := by decide +kernel
theorem dX2_init_7 : decode cX2_init 7 = .ok (.newarray .int, 2) := by decide +kernel
theorem dX2_init_9 : decode cX2_init 9 = .ok (.putfield 9, 3) := by decide +kernel
theorem dX2_init_12 : decode cX2_init 12 = .ok (.aload_n 0, 1) := by decide +kernel
theorem dX2_init_13 : decode cX2_init 13 = .ok (.bipush 6, 2) := by decide +kernel
theorem dX2_init_15 : decode cX2_init 15 = .ok (.newarray .int, 2) := by decide +kernel
theorem dX2_init_17 : decode cX2_init 17 = .ok (.putfield 15, 3) := by decide +kernel
theorem dX2_init_20 : decode cX2_init 20 = .ok (.aload_n 0, 1) := by decide +kernel
theorem dX2_init_21 : decode cX2_init 21 = .ok (.bipush 6, 2) := by decide +kernel
theorem dX2_init_23 : decode cX2_init 23 = .ok (.newarray .int, 2) := by decide +kernel
theorem dX2_init_25 : decode cX2_init 25 = .ok (.putfield 18, 3) := by decide +kernel
theorem dX2_init_28 : decode cX2_init 28 = .ok (.return_, 1) := by decide +kernel
set_option maxRecDepth 20000 in
theorem ggX2_put_X4_contains : GoodIn wsX2_put wsX4_contains := goodIn_r _ [4] (by decide +kernel) (by decide +kernel)
set_option maxRecDepth 20000 in
theorem gX2_put_X4_contains_n21 : GoodIn wsX2_put (wsX4_contains) := ggX2_put_X4_contains
set_option maxRecDepth 20000 in
theorem ggX2_put_X2_findEveryone : GoodIn wsX2_put wsX2_findEveryone := goodIn_r _ [9, 1, 10, 11, 12, 13, 8, 14, 15, 2, 3, 4, 16, 17, 18] (by decide +kernel) (by decide +kernel)
set_option maxRecDepth 20000 in
theorem gX2_put_X2_findEveryone : GoodIn wsX2_put (wsV RX2 25 RX2 yX2_findEveryone wsX2_findEveryone) := goodIn_app (goodIn_of _ (by decide +kernel)) ggX2_put_X2_findEveryone
theorem dX2_put_0 : decode cX2_put 0 = .ok (.aload_n 0, 1) := by decide +kernel
theorem dX2_put_1 : decode cX2_put 1 = .ok (.getfield 9, 3) := by decide +kernel
theorem dX2_put_4 : decode cX2_put 4 = .ok (.iload_n 1, 1) := by decide +kernel
theorem dX2_put_5 : decode cX2_put 5 = .ok (.iaload, 1) := by decide +kernel
theorem dX2_put_6 : decode cX2_put 6 = .ok (.iload_n 2, 1) := by decide +kernel
theorem dX2_put_7 : decode cX2_put 7 = .ok (.invokestatic 21, 3) := by decide +kernel
theorem dX2_put_10 : decode cX2_put 10 = .ok (.istore 4, 2) := by decide +kernel
theorem dX2_put_12 : decode cX2_put 12 = .ok (.iload 4, 2) := by decide +kernel
theorem dX2_put_14 : decode cX2_put 14 = .ok (.iload_n 3, 1) := by decide +kernel
theorem dX2_put_15 : decode cX2_put 15 = .ok (.if_icmp .eq 19, 3) := by decide +kernel
theorem dX2_put_18 : decode cX2_put 18 = .ok (.aload_n 0, 1) := by decide +kernel
theorem dX2_put_19 : decode cX2_put 19 = .ok (.getfield 9, 3) := by decide +kernel
theorem dX2_put_22 : decode cX2_put 22 = .ok (.iload_n 1, 1) := by decide +kernel
theorem dX2_put_23 : decode cX2_put 23 = .ok (.dup2, 1) := by decide +kernel
theorem dX2_put_24 : decode cX2_put 24 = .ok (.iaload, 1) := by decide +kernel
theorem dX2_put_25 : decode cX2_put 25 = .ok (.iconst 1, 1) := by decide +kernel
theorem dX2_put_26 : decode cX2_put 26 = .ok (.iload_n 2, 1) := by decide +kernel
theorem dX2_put_27 : decode cX2_put 27 = .ok (.ishl, 1) := by decide +kernel
theorem dX2_put_28 : decode cX2_put 28 = .ok (.ixor, 1) := by decide +kernel
theorem dX2_put_29 : decode cX2_put 29 = .ok (.iastore, 1) := by decide +kernel
theorem dX2_put_30 : decode cX2_put 30 = .ok (.aload_n 0, 1) := by decide +kernel
theorem dX2_put_31 : decode cX2_put 31 = .ok (.invokevirtual 25, 3) := by decide +kernel
theorem dX2_put_34 : decode cX2_put 34 = .ok (.iload 4, 2) := by decide +kernel
theorem dX2_put_36 : decode cX2_put 36 = .ok (.ireturn, 1) := by decide +kernel
set_option maxRecDepth 20000 in
theorem ggX2_toggleInner_X2_findEveryone : GoodIn wsX2_toggleInner wsX2_findEveryone := goodIn_r _ [6, 7, 8, 9, 10, 11, 5, 12, 1, 13, 14, 15, 16, 17, 18] (by decide +kernel) (by decide +kernel)
set_option maxRecDepth 20000 in
theorem gX2_toggleInner_X2_findEveryone : GoodIn wsX2_toggleInner (wsV RX2 25 RX2 yX2_findEveryone wsX2_findEveryone) := goodIn_app (goodIn_of _ (by decide +kernel)) ggX2_toggleInner_X2_findEveryone
set_option maxRecDepth 20000 in
theorem ggX2_toggleInner_X4_contains : GoodIn wsX2_toggleInner wsX4_contains := goodIn_r _ [15] (by decide +kernel) (by decide +kernel)
set_option maxRecDepth 20000 in
theorem gX2_toggleInner_X4_contains_n21 : GoodIn wsX2_toggleInner (wsX4_contains) := ggX2_toggleInner_X4_contains
theorem dX2_toggleInner_0 : decode cX2_toggleInner 0 = .ok (.aload_n 0, 1) := by decide +kernel
theorem dX2_toggleInner_1 : decode cX2_toggleInner 1 = .ok (.getfield 15, 3) := by decide +kernel
theorem dX2_toggleInner_4 : decode cX2_toggleInner 4 = .ok (.iload_n 1, 1) := by decide +kernel
theorem dX2_toggleInner_5 : decode cX2_toggleInner 5 = .ok (.dup2, 1) := by decide +kernel
theorem dX2_toggleInner_6 : decode cX2_toggleInner 6 = .ok (.iaload, 1) := by decide +kernel
theorem dX2_toggleInner_7 : decode cX2_toggleInner 7 = .ok (.iconst 1, 1) := by decide +kernel
theorem dX2_toggleInner_8 : decode cX2_toggleInner 8 = .ok (.iload_n 2, 1) := by decide +kernel
theorem dX2_toggleInner_9 : decode cX2_toggleInner 9 = .ok (.ishl, 1) := by decide +kernel
theorem dX2_toggleInner_10 : decode cX2_toggleInner 10 = .ok (.ixor, 1) := by decide +kernel
theorem dX2_toggleInner_11 : decode cX2_toggleInner 11 = .ok (.iastore, 1) := by decide +kernel
theorem dX2_toggleInner_12 : decode cX2_toggleInner 12 = .ok (.aload_n 0, 1) := by decide +kernel
theorem dX2_toggleInner_13 : decode cX2_toggleInner 13 = .ok (.invokevirtual 25, 3) := by decide +kernel
theorem dX2_toggleInner_16 : decode cX2_toggleInner 16 = .ok (.aload_n 0, 1) := by decide +kernel
theorem dX2_toggleInner_17 : decode cX2_toggleInner 17 = .ok (.getfield 15, 3) := by decide +kernel
theorem dX2_toggleInner_20 : decode cX2_toggleInner 20 = .ok (.iload_n 1, 1) := by decide +kernel
theorem dX2_toggleInner_21 : decode cX2_toggleInner 21 = .ok (.iaload, 1) := by decide +kernel
theorem dX2_toggleInner_22 : decode cX2_toggleInner 22 = .ok (.iload_n 2, 1) := by decide +kernel
theorem dX2_toggleInner_23 : decode cX2_toggleInner 23 = .ok (.invokestatic 21, 3) := by decide +kernel
theorem dX2_toggleInner_26 : decode cX2_toggleInner 26 = .ok (.ireturn, 1) := by decide +kernel
theorem dX2_everyoneIn_0 : decode cX2_everyoneIn 0 = .ok (.aload_n 0, 1) := by decide +kernel
theorem dX2_everyoneIn_1 : decode cX2_everyoneIn 1 = .ok (.getfield 18, 3) := by decide +kernel
theorem dX2_everyoneIn_4 : decode cX2_everyoneIn 4 = .ok (.iload_n 1, 1) := by decide +kernel
theorem dX2_everyoneIn_5 : decode cX2_everyoneIn 5 = .ok (.iaload, 1) := by decide +kernel
theorem dX2_everyoneIn_6 : decode cX2_everyoneIn 6 = .ok (.ireturn, 1) := by decide +kernel
set_option maxRecDepth 20000 in
theorem ggX2_reachedFrom_X4_contains : GoodIn wsX2_reachedFrom wsX4_contains := goodIn_r _ [4] (by decide +kernel) (by decide +kernel)
set_option maxRecDepth 20000 in
theorem gX2_reachedFrom_X4_contains_n21 : GoodIn wsX2_reachedFrom (wsX4_contains) := ggX2_reachedFrom_X4_contains
theorem dX2_reachedFrom_0 : decode cX2_reachedFrom 0 = .ok (.iconst 1, 1) := by decide +kernel
theorem dX2_reachedFrom_1 : decode cX2_reachedFrom 1 = .ok (.iload_n 1, 1) := by decide +kernel
theorem dX2_reachedFrom_2 : decode cX2_reachedFrom 2 = .ok (.ishl, 1) := by decide +kernel
theorem dX2_reachedFrom_3 : decode cX2_reachedFrom 3 = .ok (.istore_n 2, 1) := by decide +kernel
theorem dX2_reachedFrom_4 : decode cX2_reachedFrom 4 = .ok (.iconst 1, 1) := by decide +kernel
theorem dX2_reachedFrom_5 : decode cX2_reachedFrom 5 = .ok (.istore_n 3, 1) := by decide +kernel
theorem dX2_reachedFrom_6 : decode cX2_reachedFrom 6 = .ok (.iload_n 3, 1) := by decide +kernel
theorem dX2_reachedFrom_7 : decode cX2_reachedFrom 7 = .ok (.bipush 6, 2) := by decide +kernel
theorem dX2_reachedFrom_9 : decode cX2_reachedFrom 9 = .ok (.if_icmp .ge 44, 3) := by decide +kernel
theorem dX2_reachedFrom_12 : decode cX2_reachedFrom 12 = .ok (.iconst 0, 1) := by decide +kernel
theorem dX2_reachedFrom_13 : decode cX2_reachedFrom 13 = .ok (.istore 4, 2) := by decide +kernel
theorem dX2_reachedFrom_15 : decode cX2_reachedFrom 15 = .ok (.iload 4, 2) := by decide +kernel
theorem dX2_reachedFrom_17 : decode cX2_reachedFrom 17 = .ok (.bipush 6, 2) := by decide +kernel
theorem dX2_reachedFrom_19 : decode cX2_reachedFrom 19 = .ok (.if_icmp .ge 28, 3) := by decide +kernel
theorem dX2_reachedFrom_22 : decode cX2_reachedFrom 22 = .ok (.iload_n 2, 1) := by decide +kernel
theorem dX2_reachedFrom_23 : decode cX2_reachedFrom 23 = .ok (.iload 4, 2) := by decide +kernel
theorem dX2_reachedFrom_25 : decode cX2_reachedFrom 25 = .ok (.invokestatic 21, 3) := by decide +kernel
theorem dX2_reachedFrom_28 : decode cX2_reachedFrom 28 = .ok (.ifCond .eq 13, 3) := by decide +kernel
theorem dX2_reachedFrom_31 : decode cX2_reachedFrom 31 = .ok (.iload_n 2, 1) := by decide +kernel
theorem dX2_reachedFrom_32 : decode cX2_reachedFrom 32 = .ok (.aload_n 0, 1) := by decide +kernel
theorem dX2_reachedFrom_33 : decode cX2_reachedFrom 33 = .ok (.getfield 15, 3) := by decide +kernel
theorem dX2_reachedFrom_36 : decode cX2_reachedFrom 36 = .ok (.iload 4, 2) := by decide +kernel
theorem dX2_reachedFrom_38 : decode cX2_reachedFrom 38 = .ok (.iaload, 1) := by decide +kernel
theorem dX2_reachedFrom_39 : decode cX2_reachedFrom 39 = .ok (.ior, 1) := by decide +kernel
theorem dX2_reachedFrom_40 : decode cX2_reachedFrom 40 = .ok (.istore_n 2, 1) := by decide +kernel
theorem dX2_reachedFrom_41 : decode cX2_reachedFrom 41 = .ok (.iinc 4 1, 3) := by decide +kernel
theorem dX2_reachedFrom_44 : decode cX2_reachedFrom 44 = .ok (.goto (-29), 3) := by decide +kernel
theorem dX2_reachedFrom_47 : decode cX2_reachedFrom 47 = .ok (.iinc 3 1, 3) := by decide +kernel
theorem dX2_reachedFrom_50 : decode cX2_reachedFrom 50 = .ok (.goto (-44), 3) := by decide +kernel
theorem dX2_reachedFrom_53 : decode cX2_reachedFrom 53 = .ok (.iload_n 2, 1) := by decide +kernel
theorem dX2_reachedFrom_54 : decode cX2_reachedFrom 54 = .ok (.ireturn, 1) := by decide +kernel
set_option maxRecDepth 20000 in
theorem ggX2_findEveryone_X2_reachedFrom : GoodIn wsX2_findEveryone wsX2_reachedFrom := goodIn_r _ [7, 8, 9, 10, 11, 12, 13, 14] (by decide +kernel) (by decide +kernel)
set_option maxRecDepth 20000 in
theorem gX2_findEveryone_X2_reachedFrom : GoodIn wsX2_findEveryone (wsV RX2 28 RX2 yX2_reachedFrom wsX2_reachedFrom) := goodIn_app (goodIn_of _ (by decide +kernel)) ggX2_findEveryone_X2_reachedFrom
set_option maxRecDepth 20000 in
theorem ggX2_findEveryone_X4_contains : GoodIn wsX2_findEveryone wsX4_contains := goodIn_r _ [11] (by decide +kernel) (by decide +kernel)
set_option maxRecDepth 20000 in
theorem gX2_findEveryone_X4_contains_n21 : GoodIn wsX2_findEveryone (wsX4_contains) := ggX2_findEveryone_X4_contains
theorem dX2_findEveryone_0 : decode cX2_findEveryone 0 = .ok (.iconst 0, 1) := by decide +kernel
theorem dX2_findEveryone_1 : decode cX2_findEveryone 1 = .ok (.istore_n 1, 1) := by decide +kernel
theorem dX2_findEveryone_2 : decode cX2_findEveryone 2 = .ok (.iload_n 1, 1) := by decide +kernel
theorem dX2_findEveryone_3 : decode cX2_findEveryone 3 = .ok (.bipush 6, 2) := by decide +kernel
theorem dX2_findEveryone_5 : decode cX2_findEveryone 5 = .ok (.if_icmp .ge 59, 3) := by decide +kernel
theorem dX2_findEveryone_8 : decode cX2_findEveryone 8 = .ok (.aload_n 0, 1) := by decide +kernel
theorem dX2_findEveryone_9 : decode cX2_findEveryone 9 = .ok (.iload_n 1, 1) := by decide +kernel
theorem dX2_findEveryone_10 : decode cX2_findEveryone 10 = .ok (.invokevirtual 28, 3) := by decide +kernel
theorem dX2_findEveryone_13 : decode cX2_findEveryone 13 = .ok (.istore_n 2, 1) := by decide +kernel
theorem dX2_findEveryone_14 : decode cX2_findEveryone 14 = .ok (.iconst 0, 1) := by decide +kernel
theorem dX2_findEveryone_15 : decode cX2_findEveryone 15 = .ok (.istore_n 3, 1) := by decide +kernel
theorem dX2_findEveryone_16 : decode cX2_findEveryone 16 = .ok (.iconst 0, 1) := by decide +kernel
theorem dX2_findEveryone_17 : decode cX2_findEveryone 17 = .ok (.istore 4, 2) := by decide +kernel
theorem dX2_findEveryone_19 : decode cX2_findEveryone 19 = .ok (.iload 4, 2) := by decide +kernel
theorem dX2_findEveryone_21 : decode cX2_findEveryone 21 = .ok (.bipush 6, 2) := by decide +kernel
theorem dX2_findEveryone_23 : decode cX2_findEveryone 23 = .ok (.if_icmp .ge 28, 3) := by decide +kernel
theorem dX2_findEveryone_26 : decode cX2_findEveryone 26 = .ok (.iload_n 2, 1) := by decide +kernel
theorem dX2_findEveryone_27 : decode cX2_findEveryone 27 = .ok (.iload 4, 2) := by decide +kernel
theorem dX2_findEveryone_29 : decode cX2_findEveryone 29 = .ok (.invokestatic 21, 3) := by decide +kernel
theorem dX2_findEveryone_32 : decode cX2_findEveryone 32 = .ok (.ifCond .eq 13, 3) := by decide +kernel
theorem dX2_findEveryone_35 : decode cX2_findEveryone 35 = .ok (.iload_n 3, 1) := by decide +kernel
theorem dX2_findEveryone_36 : decode cX2_findEveryone 36 = .ok (.aload_n 0, 1) := by decide +kernel
theorem dX2_findEveryone_37 : decode cX2_findEveryone 37 = .ok (.getfield 9, 3) := by decide +kernel
theorem dX2_findEveryone_40 : decode cX2_findEveryone 40 = .ok (.iload 4, 2) := by decide +kernel
theorem dX2_findEveryone_42 : decode cX2_findEveryone 42 = .ok (.iaload, 1) := by decide +kernel
theorem dX2_findEveryone_43 : decode cX2_findEveryone 43 = .ok (.ior, 1) := by decide +kernel
theorem dX2_findEveryone_44 : decode cX2_findEveryone 44 = .ok (.istore_n 3, 1) := by decide +kernel
theorem dX2_findEveryone_45 : decode cX2_findEveryone 45 = .ok (.iinc 4 1, 3) := by decide +kernel
theorem dX2_findEveryone_48 : decode cX2_findEveryone 48 = .ok (.goto (-29), 3) := by decide +kernel
theorem dX2_findEveryone_51 : decode cX2_findEveryone 51 = .ok (.aload_n 0, 1) := by decide +kernel
theorem dX2_findEveryone_52 : decode cX2_findEveryone 52 = .ok (.getfield 18, 3) := by decide +kernel
theorem dX2_findEveryone_55 : decode cX2_findEveryone 55 = .ok (.iload_n 1, 1) := by decide +kernel
theorem dX2_findEveryone_56 : decode cX2_findEveryone 56 = .ok (.iload_n 3, 1) := by decide +kernel
theorem dX2_findEveryone_57 : decode cX2_findEveryone 57 = .ok (.iastore, 1) := by decide +kernel
theorem dX2_findEveryone_58 : decode cX2_findEveryone 58 = .ok (.iinc 1 1, 3) := by decide +kernel
theorem dX2_findEveryone_61 : decode cX2_findEveryone 61 = .ok (.goto (-59), 3) := by decide +kernel
theorem dX2_findEveryone_64 : decode cX2_findEveryone 64 = .ok (.return_, 1) := by decide +kernel
theorem dX3_init_0 : decode cX3_init 0 = .ok (.aload_n 0, 1) := by decide +kernel
theorem dX3_init_1 : decode cX3_init 1 = .ok (.invokespecial 3, 3) := by decide +kernel
theorem dX3_init_4 : decode cX3_init 4 = .ok (.aload_n 0, 1) := by decide +kernel
theorem dX3_init_5 : decode cX3_init 5 = .ok (.bipush 8, 2) := by decide +kernel
theorem dX3_init_7 : decode cX3_init 7 = .ok (.newarray .int, 2) := by decide +kernel
theorem dX3_init_9 : decode cX3_init 9 = .ok (.putfield 9, 3) := by decide +kernel
theorem dX3_init_12 : decode cX3_init 12 = .ok (.aload_n 0, 1) := by decide +kernel
theorem dX3_init_13 : decode cX3_init 13 = .ok (.bipush 8, 2) := by decide +kernel
theorem dX3_init_15 : decode cX3_init 15 = .ok (.newarray .int, 2) := by decide +kernel
theorem dX3_init_17 : decode cX3_init 17 = .ok (.putfield 15, 3) := by decide +kernel
theorem dX3_init_20 : decode cX3_init 20 = .ok (.aload_n 0, 1) := by decide +kernel
theorem dX3_init_21 : decode cX3_init 21 = .ok (.iconst (-1), 1) := by decide +kernel
theorem dX3_init_22 : decode cX3_init 22 = .ok (.putfield 18, 3) := by decide +kernel
theorem dX3_init_25 : decode cX3_init 25 = .ok (.aload_n 0, 1) := by decide +kernel
theorem dX3_init_26 : decode cX3_init 26 = .ok (.iconst 0, 1) := by decide +kernel
theorem dX3_init_27 : decode cX3_init 27 = .ok (.putfield 22, 3) := by decide +kernel
theorem dX3_init_30 : decode cX3_init 30 = .ok (.aload_n 0, 1) := by decide +kernel
theorem dX3_init_31 : decode cX3_init 31 = .ok (.iconst 0, 1) := by decide +kernel
theorem dX3_init_32 : decode cX3_init 32 = .ok (.putfield 25, 3) := by decide +kernel
theorem dX3_init_35 : decode cX3_init 35 = .ok (.aload_n 0, 1) := by decide +kernel
theorem dX3_init_36 : decode cX3_init 36 = .ok (.iconst 0, 1) := by decide +kernel
theorem dX3_init_37 : decode cX3_init 37 = .ok (.putfield 28, 3) := by decide +kernel
theorem dX3_init_40 : decode cX3_init 40 = .ok (.aload_n 0, 1) := by decide +kernel
theorem dX3_init_41 : decode cX3_init 41 = .ok (.iconst 0, 1) := by decide +kernel
theorem dX3_init_42 : decode cX3_init 42 = .ok (.putfield 31, 3) := by decide +kernel
theorem dX3_init_45 : decode cX3_init 45 = .ok (.return_, 1) := by decide +kernel
set_option maxRecDepth 20000 in
theorem ggX3_make_X3_findBits : GoodIn wsX3_make wsX3_findBits := goodIn_r _ [8, 2, 9, 10, 3, 11, 12, 13, 14, 15, 7, 16, 17, 18, 19, 20, 21, 22, 23, 24, 25, 26, 27, 28, 29, 30, 35, 36, 37, 38, 39, 40, 41] (by decide +kernel) (by decide +kernel)
set_option maxRecDepth 20000 in
theorem gX3_make_X3_findBits : GoodIn wsX3_make (wsV RX3 34 RX3 yX3_findBits wsX3_findBits) := goodIn_app (goodIn_of _ (by decide +kernel)) ggX3_make_X3_findBits
set_option maxRecDepth 20000 in
theorem ggX3_make_X3_greatestLoser : GoodIn wsX3_make wsX3_greatestLoser := goodIn_r _ [34, 20, 21, 22, 7, 23, 12, 11, 24, 25, 26, 27, 28, 29, 30, 35, 36, 37, 38, 39, 40, 41] (by decide +kernel) (by decide +kernel)
set_option maxRecDepth 20000 in
theorem gX3_make_X3_greatestLoser : GoodIn wsX3_make (wsV RX3 38 RX3 yX3_greatestLoser wsX3_greatestLoser) := goodIn_app (goodIn_of _ (by decide +kernel)) ggX3_make_X3_greatestLoser
theorem dX3_make_0 : decode cX3_make 0 = .ok (.aload_n 0, 1) := by decide +kernel
theorem dX3_make_1 : decode cX3_make 1 = .ok (.iload_n 2, 1) := by decide +kernel
theorem dX3_make_2 : decode cX3_make 2 = .ok (.putfield 18, 3) := by decide +kernel
theorem dX3_make_5 : decode cX3_make 5 = .ok (.aload_n 0, 1) := by decide +kernel
theorem dX3_make_6 : decode cX3_make 6 = .ok (.iconst 0, 1) := by decide +kernel
theorem dX3_make_7 : decode cX3_make 7 = .ok (.putfield 28, 3) := by decide +kernel
theorem dX3_make_10 : decode cX3_make 10 = .ok (.aload_n 0, 1) := by decide +kernel
theorem dX3_make_11 : decode cX3_make 11 = .ok (.iload_n 1, 1) := by decide +kernel
theorem dX3_make_12 : decode cX3_make 12 = .ok (.iload_n 3, 1) := by decide +kernel
theorem dX3_make_13 : decode cX3_make 13 = .ok (.invokevirtual 34, 3) := by decide +kernel
theorem dX3_make_16 : decode cX3_make 16 = .ok (.iconst 0, 1) := by decide +kernel
theorem dX3_make_17 : decode cX3_make 17 = .ok (.istore 4, 2) := by decide +kernel
theorem dX3_make_19 : decode cX3_make 19 = .ok (.iload 4, 2) := by decide +kernel
theorem dX3_make_21 : decode cX3_make 21 = .ok (.iconst 3, 1) := by decide +kernel
theorem dX3_make_22 : decode cX3_make 22 = .ok (.if_icmp .ge 37, 3) := by decide +kernel
theorem dX3_make_25 : decode cX3_make 25 = .ok (.aload_n 0, 1) := by decide +kernel
theorem dX3_make_26 : decode cX3_make 26 = .ok (.getfield 31, 3) := by decide +kernel
theorem dX3_make_29 : decode cX3_make 29 = .ok (.ifCond .le 30, 3) := by decide +kernel
theorem dX3_make_32 : decode cX3_make 32 = .ok (.aload_n 0, 1) := by decide +kernel
theorem dX3_make_33 : decode cX3_make 33 = .ok (.dup, 1) := by decide +kernel
theorem dX3_make_34 : decode cX3_make 34 = .ok (.getfield 28, 3) := by decide +kernel
theorem dX3_make_37 : decode cX3_make 37 = .ok (.iconst 1, 1) := by decide +kernel
theorem dX3_make_38 : decode cX3_make 38 = .ok (.aload_n 0, 1) := by decide +kernel
theorem dX3_make_39 : decode cX3_make 39 = .ok (.invokevirtual 38, 3) := by decide +kernel
theorem dX3_make_42 : decode cX3_make 42 = .ok (.ishl, 1) := by decide +kernel
theorem dX3_make_43 : decode cX3_make 43 = .ok (.ior, 1) := by decide +kernel
theorem dX3_make_44 : decode cX3_make 44 = .ok (.putfield 28, 3) := by decide +kernel
theorem dX3_make_47 : decode cX3_make 47 = .ok (.aload_n 0, 1) := by decide +kernel
theorem dX3_make_48 : decode cX3_make 48 = .ok (.iload_n 1, 1) := by decide +kernel
theorem dX3_make_49 : decode cX3_make 49 = .ok (.iload_n 3, 1) := by decide +kernel
theorem dX3_make_50 : decode cX3_make 50 = .ok (.invokevirtual 34, 3) := by decide +kernel
theorem dX3_make_53 : decode cX3_make 53 = .ok (.iinc 4 1, 3) := by decide +kernel
theorem dX3_make_56 : decode cX3_make 56 = .ok (.goto (-37), 3) := by decide +kernel
theorem dX3_make_59 : decode cX3_make 59 = .ok (.return_, 1) := by decide +kernel
set_option maxRecDepth 20000 in
theorem ggX3_findBits_X3_sharedBy : GoodIn wsX3_findBits wsX3_sharedBy := goodIn_r _ [11, 6, 12, 13, 14, 26, 27, 28, 29, 30, 31, 32] (by decide +kernel) (by decide +kernel)
set_option maxRecDepth 20000 in
theorem gX3_findBits_X3_sharedBy : GoodIn wsX3_findBits (wsV RX3 42 RX3 yX3_sharedBy wsX3_sharedBy) := goodIn_app (goodIn_of _ (by decide +kernel)) ggX3_findBits_X3_sharedBy
set_option maxRecDepth 20000 in
theorem ggX3_findBits_X4_contains : GoodIn wsX3_findBits wsX4_contains := goodIn_r _ [14] (by decide +kernel) (by decide +kernel)
set_option maxRecDepth 20000 in
theorem gX3_findBits_X4_contains_n46 : GoodIn wsX3_findBits (wsX4_contains) := ggX3_findBits_X4_contains
set_option maxRecDepth 20000 in
theorem ggX3_findBits_X3_lossOf : GoodIn wsX3_findBits wsX3_lossOf := goodIn_r _ [18, 6, 5, 19, 20, 21, 22, 23, 24, 25, 26, 27, 28, 29, 30, 31, 32] (by decide +kernel) (by decide +kernel)
set_option maxRecDepth 20000 in
theorem gX3_findBits_X3_lossOf : GoodIn wsX3_findBits (wsV RX3 50 RX3 yX3_lossOf wsX3_lossOf) := goodIn_app (goodIn_of _ (by decide +kernel)) ggX3_findBits_X3_lossOf
theorem dX3_findBits_0 : decode cX3_findBits 0 = .ok (.sipush 255, 3) := by decide +kernel
theorem dX3_findBits_3 : decode cX3_findBits 3 = .ok (.aload_n 0, 1) := by decide +kernel
theorem dX3_findBits_4 : decode cX3_findBits 4 = .ok (.getfield 28, 3) := by decide +kernel
theorem dX3_findBits_7 : decode cX3_findBits 7 = .ok (.iconst (-1), 1) := by decide +kernel
theorem dX3_findBits_8 : decode cX3_findBits 8 = .ok (.ixor, 1) := by decide +kernel
theorem dX3_findBits_9 : decode cX3_findBits 9 = .ok (.iand, 1) := by decide +kernel
theorem dX3_findBits_10 : decode cX3_findBits 10 = .ok (.iconst 1, 1) := by decide +kernel
theorem dX3_findBits_11 : decode cX3_findBits 11 = .ok (.iload_n 1, 1) := by decide +kernel
theorem dX3_findBits_12 : decode cX3_findBits 12 = .ok (.ishl, 1) := by decide +kernel
theorem dX3_findBits_13 : decode cX3_findBits 13 = .ok (.iconst (-1), 1) := by decide +kernel
theorem dX3_findBits_14 : decode cX3_findBits 14 = .ok (.ixor, 1) := by decide +kernel
theorem dX3_findBits_15 : decode cX3_findBits 15 = .ok (.iand, 1) := by decide +kernel
theorem dX3_findBits_16 : decode cX3_findBits 16 = .ok (.istore_n 3, 1) := by decide +kernel
theorem dX3_findBits_17 : decode cX3_findBits 17 = .ok (.aload_n 0, 1) := by decide +kernel
theorem dX3_findBits_18 : decode cX3_findBits 18 = .ok (.aload_n 0, 1) := by decide +kernel
theorem dX3_findBits_19 : decode cX3_findBits 19 = .ok (.iload_n 3, 1) := by decide +kernel
theorem dX3_findBits_20 : decode cX3_findBits 20 = .ok (.iload_n 2, 1) := by decide +kernel
theorem dX3_findBits_21 : decode cX3_findBits 21 = .ok (.iand, 1) := by decide +kernel
theorem dX3_findBits_22 : decode cX3_findBits 22 = .ok (.invokevirtual 42, 3) := by decide +kernel
theorem dX3_findBits_25 : decode cX3_findBits 25 = .ok (.putfield 22, 3) := by decide +kernel
theorem dX3_findBits_28 : decode cX3_findBits 28 = .ok (.aload_n 0, 1) := by decide +kernel
theorem dX3_findBits_29 : decode cX3_findBits 29 = .ok (.aload_n 0, 1) := by decide +kernel
theorem dX3_findBits_30 : decode cX3_findBits 30 = .ok (.iload_n 3, 1) := by decide +kernel
theorem dX3_findBits_31 : decode cX3_findBits 31 = .ok (.iload_n 2, 1) := by decide +kernel
theorem dX3_findBits_32 : decode cX3_findBits 32 = .ok (.iconst (-1), 1) := by decide +kernel
theorem dX3_findBits_33 : decode cX3_findBits 33 = .ok (.ixor, 1) := by decide +kernel
theorem dX3_findBits_34 : decode cX3_findBits 34 = .ok (.iand, 1) := by decide +kernel
theorem dX3_findBits_35 : decode cX3_findBits 35 = .ok (.invokevirtual 42, 3) := by decide +kernel
theorem dX3_findBits_38 : decode cX3_findBits 38 = .ok (.putfield 25, 3) := by decide +kernel
theorem dX3_findBits_41 : decode cX3_findBits 41 = .ok (.aload_n 0, 1) := by decide +kernel
theorem dX3_findBits_42 : decode cX3_findBits 42 = .ok (.iconst 0, 1) := by decide +kernel
theorem dX3_findBits_43 : decode cX3_findBits 43 = .ok (.putfield 31, 3) := by decide +kernel
theorem dX3_findBits_46 : decode cX3_findBits 46 = .ok (.iconst 0, 1) := by decide +kernel
theorem dX3_findBits_47 : decode cX3_findBits 47 = .ok (.istore 4, 2) := by decide +kernel
theorem dX3_findBits_49 : decode cX3_findBits 49 = .ok (.iload 4, 2) := by decide +kernel
theorem dX3_findBits_51 : decode cX3_findBits 51 = .ok (.bipush 8, 2) := by decide +kernel
theorem dX3_findBits_53 : decode cX3_findBits 53 = .ok (.if_icmp .ge 77, 3) := by decide +kernel
theorem dX3_findBits_56 : decode cX3_findBits 56 = .ok (.iload_n 3, 1) := by decide +kernel
theorem dX3_findBits_57 : decode cX3_findBits 57 = .ok (.iload 4, 2) := by decide +kernel
theorem dX3_findBits_59 : decode cX3_findBits 59 = .ok (.invokestatic 46, 3) := by decide +kernel
theorem dX3_findBits_62 : decode cX3_findBits 62 = .ok (.ifCond .ne 20, 3) := by decide +kernel
theorem dX3_findBits_65 : decode cX3_findBits 65 = .ok (.aload_n 0, 1) := by decide +kernel
theorem dX3_findBits_66 : decode cX3_findBits 66 = .ok (.getfield 15, 3) := by decide +kernel
theorem dX3_findBits_69 : decode cX3_findBits 69 = .ok (.iload 4, 2) := by decide +kernel
theorem dX3_findBits_71 : decode cX3_findBits 71 = .ok (.aload_n 0, 1) := by decide +kernel
theorem dX3_findBits_72 : decode cX3_findBits 72 = .ok (.getfield 9, 3) := by decide +kernel
theorem dX3_findBits_75 : decode cX3_findBits 75 = .ok (.iload 4, 2) := by decide +kernel
theorem dX3_findBits_77 : decode cX3_findBits 77 = .ok (.iaload, 1) := by decide +kernel
theorem dX3_findBits_78 : decode cX3_findBits 78 = .ok (.iastore, 1) := by decide +kernel
theorem dX3_findBits_79 : decode cX3_findBits 79 = .ok (.goto 30, 3) := by decide +kernel
theorem dX3_findBits_82 : decode cX3_findBits 82 = .ok (.aload_n 0, 1) := by decide +kernel
theorem dX3_findBits_83 : decode cX3_findBits 83 = .ok (.getfield 15, 3) := by decide +kernel
theorem dX3_findBits_86 : decode cX3_findBits 86 = .ok (.iload 4, 2) := by decide +kernel
theorem dX3_findBits_88 : decode cX3_findBits 88 = .ok (.iload_n 2, 1) := by decide +kernel
theorem dX3_findBits_89 : decode cX3_findBits 89 = .ok (.iload 4, 2) := by decide +kernel
theorem dX3_findBits_91 : decode cX3_findBits 91 = .ok (.invokestatic 46, 3) := by decide +kernel
theorem dX3_findBits_94 : decode cX3_findBits 94 = .ok (.ifCond .eq 10, 3) := by decide +kernel
theorem dX3_findBits_97 : decode cX3_findBits 97 = .ok (.aload_n 0, 1) := by decide +kernel
theorem dX3_findBits_98 : decode cX3_findBits 98 = .ok (.getfield 22, 3) := by decide +kernel
theorem dX3_findBits_101 : decode cX3_findBits 101 = .ok (.goto 7, 3) := by decide +kernel
theorem dX3_findBits_104 : decode cX3_findBits 104 = .ok (.aload_n 0, 1) := by decide +kernel
theorem dX3_findBits_105 : decode cX3_findBits 105 = .ok (.getfield 25, 3) := by decide +kernel
theorem dX3_findBits_108 : decode cX3_findBits 108 = .ok (.iastore, 1) := by decide +kernel
theorem dX3_findBits_109 : decode cX3_findBits 109 = .ok (.aload_n 0, 1) := by decide +kernel
theorem dX3_findBits_110 : decode cX3_findBits 110 = .ok (.dup, 1) := by decide +kernel
theorem dX3_findBits_111 : decode cX3_findBits 111 = .ok (.getfield 31, 3) := by decide +kernel
theorem dX3_findBits_114 : decode cX3_findBits 114 = .ok (.aload_n 0, 1) := by decide +kernel
theorem dX3_findBits_115 : decode cX3_findBits 115 = .ok (.iload 4, 2) := by decide +kernel
theorem dX3_findBits_117 : decode cX3_findBits 117 = .ok (.invokevirtual 50, 3) := by decide +kernel
theorem dX3_findBits_120 : decode cX3_findBits 120 = .ok (.iadd, 1) := by decide +kernel
theorem dX3_findBits_121 : decode cX3_findBits 121 = .ok (.putfield 31, 3) := by decide +kernel
theorem dX3_findBits_124 : decode cX3_findBits 124 = .ok (.iinc 4 1, 3) := by decide +kernel
theorem dX3_findBits_127 : decode cX3_findBits 127 = .ok (.goto (-78), 3) := by decide +kernel
theorem dX3_findBits_130 : decode cX3_findBits 130 = .ok (.return_, 1) := by decide +kernel
set_option maxRecDepth 20000 in
theorem ggX3_sharedBy_X4_contains : GoodIn wsX3_sharedBy wsX4_contains := goodIn_r _ [4] (by decide +kernel) (by decide +kernel)
set_option maxRecDepth 20000 in
theorem gX3_sharedBy_X4_contains_n46 : GoodIn wsX3_sharedBy (wsX4_contains) := ggX3_sharedBy_X4_contains
theorem dX3_sharedBy_0 : decode cX3_sharedBy 0 = .ok (.iload_n 1, 1) := by decide +kernel
theorem dX3_sharedBy_1 : decode cX3_sharedBy 1 = .ok (.ifCond .ne 5, 3) := by decide +kernel
theorem dX3_sharedBy_4 : decode cX3_sharedBy 4 = .ok (.iconst 0, 1) := by decide +kernel
theorem dX3_sharedBy_5 : decode cX3_sharedBy 5 = .ok (.ireturn, 1) := by decide +kernel
theorem dX3_sharedBy_6 : decode cX3_sharedBy 6 = .ok (.bipush 7, 2) := by decide +kernel
theorem dX3_sharedBy_8 : decode cX3_sharedBy 8 = .ok (.istore_n 2, 1) := by decide +kernel
theorem dX3_sharedBy_9 : decode cX3_sharedBy 9 = .ok (.iconst 0, 1) := by decide +kernel
theorem dX3_sharedBy_10 : decode cX3_sharedBy 10 = .ok (.istore_n 3, 1) := by decide +kernel
theorem dX3_sharedBy_11 : decode cX3_sharedBy 11 = .ok (.iload_n 3, 1) := by decide +kernel
theorem dX3_sharedBy_12 : decode cX3_sharedBy 12 = .ok (.bipush 8, 2) := by decide +kernel
theorem dX3_sharedBy_14 : decode cX3_sharedBy 14 = .ok (.if_icmp .ge 26, 3) := by decide +kernel
theorem dX3_sharedBy_17 : decode cX3_sharedBy 17 = .ok (.iload_n 1, 1) := by decide +kernel
theorem dX3_sharedBy_18 : decode cX3_sharedBy 18 = .ok (.iload_n 3, 1) := by decide +kernel
theorem dX3_sharedBy_19 : decode cX3_sharedBy 19 = .ok (.invokestatic 46, 3) := by decide +kernel
theorem dX3_sharedBy_22 : decode cX3_sharedBy 22 = .ok (.ifCond .eq 12, 3) := by decide +kernel
theorem dX3_sharedBy_25 : decode cX3_sharedBy 25 = .ok (.iload_n 2, 1) := by decide +kernel
theorem dX3_sharedBy_26 : decode cX3_sharedBy 26 = .ok (.aload_n 0, 1) := by decide +kernel
theorem dX3_sharedBy_27 : decode cX3_sharedBy 27 = .ok (.getfield 9, 3) := by decide +kernel
theorem dX3_sharedBy_30 : decode cX3_sharedBy 30 = .ok (.iload_n 3, 1) := by decide +kernel
theorem dX3_sharedBy_31 : decode cX3_sharedBy 31 = .ok (.iaload, 1) := by decide +kernel
theorem dX3_sharedBy_32 : decode cX3_sharedBy 32 = .ok (.iand, 1) := by decide +kernel
theorem dX3_sharedBy_33 : decode cX3_sharedBy 33 = .ok (.istore_n 2, 1) := by decide +kernel
theorem dX3_sharedBy_34 : decode cX3_sharedBy 34 = .ok (.iinc 3 1, 3) := by decide +kernel
theorem dX3_sharedBy_37 : decode cX3_sharedBy 37 = .ok (.goto (-26), 3) := by decide +kernel
theorem dX3_sharedBy_40 : decode cX3_sharedBy 40 = .ok (.iload_n 2, 1) := by decide +kernel
theorem dX3_sharedBy_41 : decode cX3_sharedBy 41 = .ok (.ireturn, 1) := by decide +kernel
set_option maxRecDepth 20000 in
theorem ggX3_lossOf_J6_bitCount_0f7a4 : GoodIn wsX3_lossOf wsJ6_bitCount_0f7a4 := goodIn_r _ [6, 7, 8, 9] (by decide +kernel) (by decide +kernel)
set_option maxRecDepth 20000 in
theorem gX3_lossOf_J6_bitCount_0f7a4 : GoodIn wsX3_lossOf (va_wsS RX3 53 yJ6_bitCount_0f7a4 wsJ6_bitCount_0f7a4) := goodIn_app (goodIn_of _ (by decide +kernel)) ggX3_lossOf_J6_bitCount_0f7a4
theorem dX3_lossOf_0 : decode cX3_lossOf 0 = .ok (.aload_n 0, 1) := by decide +kernel
theorem dX3_lossOf_1 : decode cX3_lossOf 1 = .ok (.getfield 9, 3) := by decide +kernel
theorem dX3_lossOf_4 : decode cX3_lossOf 4 = .ok (.iload_n 1, 1) := by decide +kernel
theorem dX3_lossOf_5 : decode cX3_lossOf 5 = .ok (.iaload, 1) := by decide +kernel
theorem dX3_lossOf_6 : decode cX3_lossOf 6 = .ok (.aload_n 0, 1) := by decide +kernel
theorem dX3_lossOf_7 : decode cX3_lossOf 7 = .ok (.getfield 15, 3) := by decide +kernel
theorem dX3_lossOf_10 : decode cX3_lossOf 10 = .ok (.iload_n 1, 1) := by decide +kernel
theorem dX3_lossOf_11 : decode cX3_lossOf 11 = .ok (.iaload, 1) := by decide +kernel
theorem dX3_lossOf_12 : decode cX3_lossOf 12 = .ok (.iconst (-1), 1) := by decide +kernel
theorem dX3_lossOf_13 : decode cX3_lossOf 13 = .ok (.ixor, 1) := by decide +kernel
theorem dX3_lossOf_14 : decode cX3_lossOf 14 = .ok (.iand, 1) := by decide +kernel
theorem dX3_lossOf_15 : decode cX3_lossOf 15 = .ok (.invokestatic 53, 3) := by decide +kernel
theorem dX3_lossOf_18 : decode cX3_lossOf 18 = .ok (.ireturn, 1) := by decide +kernel
set_option maxRecDepth 20000 in
theorem ggX3_greatestLoser_X3_lossOf : GoodIn wsX3_greatestLoser wsX3_lossOf := goodIn_r _ [5, 6, 7, 8, 9, 10, 11, 12, 13, 14, 15, 16, 17, 18, 19, 20, 21] (by decide +kernel) (by decide +kernel)
set_option maxRecDepth 20000 in
theorem gX3_greatestLoser_X3_lossOf : GoodIn wsX3_greatestLoser (wsV RX3 50 RX3 yX3_lossOf wsX3_lossOf) := goodIn_app (goodIn_of _ (by decide +kernel)) ggX3_greatestLoser_X3_lossOf
theorem dX3_greatestLoser_0 : decode cX3_greatestLoser 0 = .ok (.iconst 0, 1) := by decide +kernel
theorem dX3_greatestLoser_1 : decode cX3_greatestLoser 1 = .ok (.istore_n 1, 1) := by decide +kernel
theorem dX3_greatestLoser_2 : decode cX3_greatestLoser 2 = .ok (.iconst 1, 1) := by decide +kernel
theorem dX3_greatestLoser_3 : decode cX3_greatestLoser 3 = .ok (.istore_n 2, 1) := by decide +kernel
theorem dX3_greatestLoser_4 : decode cX3_greatestLoser 4 = .ok (.iload_n 2, 1) := by decide +kernel
theorem dX3_greatestLoser_5 : decode cX3_greatestLoser 5 = .ok (.bipush 8, 2) := by decide +kernel
theorem dX3_greatestLoser_7 : decode cX3_greatestLoser 7 = .ok (.if_icmp .ge 24, 3) := by decide +kernel
theorem dX3_greatestLoser_10 : decode cX3_greatestLoser 10 = .ok (.aload_n 0, 1) := by decide +kernel
theorem dX3_greatestLoser_11 : decode cX3_greatestLoser 11 = .ok (.iload_n 2, 1) := by decide +kernel
theorem dX3_greatestLoser_12 : decode cX3_greatestLoser 12 = .ok (.invokevirtual 50, 3) := by decide +kernel
theorem dX3_greatestLoser_15 : decode cX3_greatestLoser 15 = .ok (.aload_n 0, 1) := by decide +kernel
theorem dX3_greatestLoser_16 : decode cX3_greatestLoser 16 = .ok (.iload_n 1, 1) := by decide +kernel
theorem dX3_greatestLoser_17 : decode cX3_greatestLoser 17 = .ok (.invokevirtual 50, 3) := by decide +kernel
theorem dX3_greatestLoser_20 : decode cX3_greatestLoser 20 = .ok (.if_icmp .le 5, 3) := by decide +kernel
theorem dX3_greatestLoser_23 : decode cX3_greatestLoser 23 = .ok (.iload_n 2, 1) := by decide +kernel
theorem dX3_greatestLoser_24 : decode cX3_greatestLoser 24 = .ok (.istore_n 1, 1) := by decide +kernel
theorem dX3_greatestLoser_25 : decode cX3_greatestLoser 25 = .ok (.iinc 2 1, 3) := by decide +kernel
theorem dX3_greatestLoser_28 : decode cX3_greatestLoser 28 = .ok (.goto (-24), 3) := by decide +kernel
theorem dX3_greatestLoser_31 : decode cX3_greatestLoser 31 = .ok (.iload_n 1, 1) := by decide +kernel
theorem dX3_greatestLoser_32 : decode cX3_greatestLoser 32 = .ok (.ireturn, 1) := by decide +kernel
set_option maxRecDepth 20000 in
theorem ggX4_init_X2_init : GoodIn wsX4_init wsX2_init := goodIn_r _ [20, 21, 2, 3, 22, 23, 24, 25, 117, 118, 119] (by decide +kernel) (by decide +kernel)
set_option maxRecDepth 20000 in
theorem gX4_init_X2_init_n11 : GoodIn wsX4_init (wsX2_init) := ggX4_init_X2_init
set_option maxRecDepth 20000 in
theorem ggX4_init_Jx4a65c_init_da8c8 : GoodIn wsX4_init wsJx4a65c_init_da8c8 := goodIn_r _ [28, 29, 30, 31, 32, 33, 34, 35, 36, 37, 38, 39, 40, 2, 3, 123, 124, 125] (by decide +kernel) (by decide +kernel)
set_option maxRecDepth 20000 in
theorem gX4_init_Jx4a65c_init_da8c8 : GoodIn wsX4_init (wsJx4a65c_init_da8c8) := ggX4_init_Jx4a65c_init_da8c8
set_option maxRecDepth 20000 in
theorem ggX4_init_X3_init : GoodIn wsX4_init wsX3_init := goodIn_r _ [42, 43, 2, 3, 22, 44, 45, 46, 47, 48, 49, 50, 126, 127, 128, 129, 130, 131, 132] (by decide +kernel) (by decide +kernel)
set_option maxRecDepth 20000 in
theorem gX4_init_X3_init_n25 : GoodIn wsX4_init (wsX3_init) := ggX4_init_X3_init
set_option maxRecDepth 20000 in
theorem ggX4_init_X1_init : GoodIn wsX4_init wsX1_init := goodIn_r _ [53, 54, 2, 3, 55, 9, 10, 56, 22, 57, 58, 59, 60, 61, 62, 63, 27, 28, 29, 30, 31, 32, 33, 34, 35, 36, 37, 38, 39, 40, 123, 124, 125, 133, 134, 135, 136, 137, 138, 139] (by decide +kernel) (by decide +kernel)
set_option maxRecDepth 20000 in
theorem gX4_init_X1_init : GoodIn wsX4_init (wsX1_init) := ggX4_init_X1_init
set_option maxRecDepth 20000 in
theorem ggX4_init_Jx4a65c_add_9ea2d : GoodIn wsX4_init wsJx4a65c_add_9ea2d := goodIn_r _ [67, 68, 69, 30, 70, 71, 72, 73, 10, 74, 75, 76, 77, 78, 79, 80, 81, 82, 29, 83, 84, 85, 86, 87, 88, 89, 90, 91, 92, 93, 94, 95, 96, 97, 98, 99, 100, 101, 102, 103, 104, 105, 106, 107, 108, 109, 110, 111, 112, 113, 114, 115, 116, 123, 124, 125] (by decide +kernel) (by decide +kernel)
set_option maxRecDepth 20000 in
theorem gX4_init_Jx4a65c_add_9ea2d : GoodIn wsX4_init (wsV RX4 35 RJx4a65c yJx4a65c_add_9ea2d wsJx4a65c_add_9ea2d) := goodIn_app (goodIn_of _ (by decide +kernel)) ggX4_init_Jx4a65c_add_9ea2d
theorem dX4_init_0 : decode cX4_init 0 = .ok (.aload_n 0, 1) := by decide +kernel
theorem dX4_init_1 : decode cX4_init 1 = .ok (.invokespecial 3, 3) := by decide +kernel
theorem dX4_init_4 : decode cX4_init 4 = .ok (.aload_n 0, 1) := by decide +kernel
theorem dX4_init_5 : decode cX4_init 5 = .ok (.new 9, 3) := by decide +kernel
theorem dX4_init_8 : decode cX4_init 8 = .ok (.dup, 1) := by decide +kernel
theorem dX4_init_9 : decode cX4_init 9 = .ok (.invokespecial 11, 3) := by decide +kernel
theorem dX4_init_12 : decode cX4_init 12 = .ok (.putfield 12, 3) := by decide +kernel
theorem dX4_init_15 : decode cX4_init 15 = .ok (.aload_n 0, 1) := by decide +kernel
theorem dX4_init_16 : decode cX4_init 16 = .ok (.new 16, 3) := by decide +kernel
theorem dX4_init_19 : decode cX4_init 19 = .ok (.dup, 1) := by decide +kernel
theorem dX4_init_20 : decode cX4_init 20 = .ok (.invokespecial 18, 3) := by decide +kernel
theorem dX4_init_23 : decode cX4_init 23 = .ok (.putfield 19, 3) := by decide +kernel
theorem dX4_init_26 : decode cX4_init 26 = .ok (.aload_n 0, 1) := by decide +kernel
theorem dX4_init_27 : decode cX4_init 27 = .ok (.new 23, 3) := by decide +kernel
theorem dX4_init_30 : decode cX4_init 30 = .ok (.dup, 1) := by decide +kernel
theorem dX4_init_31 : decode cX4_init 31 = .ok (.invokespecial 25, 3) := by decide +kernel
theorem dX4_init_34 : decode cX4_init 34 = .ok (.putfield 26, 3) := by decide +kernel
theorem dX4_init_37 : decode cX4_init 37 = .ok (.aload_n 0, 1) := by decide +kernel
theorem dX4_init_38 : decode cX4_init 38 = .ok (.getfield 19, 3) := by decide +kernel
theorem dX4_init_41 : decode cX4_init 41 = .ok (.new 30, 3) := by decide +kernel
theorem dX4_init_44 : decode cX4_init 44 = .ok (.dup, 1) := by decide +kernel
theorem dX4_init_45 : decode cX4_init 45 = .ok (.aconst_null, 1) := by decide +kernel
theorem dX4_init_46 : decode cX4_init 46 = .ok (.iconst 0, 1) := by decide +kernel
theorem dX4_init_47 : decode cX4_init 47 = .ok (.invokespecial 32, 3) := by decide +kernel
theorem dX4_init_50 : decode cX4_init 50 = .ok (.invokevirtual 35, 3) := by decide +kernel
theorem dX4_init_53 : decode cX4_init 53 = .ok (.pop, 1) := by decide +kernel
theorem dX4_init_54 : decode cX4_init 54 = .ok (.return_, 1) := by decide +kernel
set_option maxRecDepth 20000 in
theorem ggX4_setMember_X4_refuseNoGroup : GoodIn wsX4_setMember wsX4_refuseNoGroup := goodIn_ca (goodIn_r _ [5, 6, 7] (by decide +kernel) (by decide +kernel)) (goodIn_sub (fun _ h => List.mem_cons_of_mem _ (List.mem_append_right _ h)) (by decide +kernel))
set_option maxRecDepth 20000 in
theorem gX4_setMember_X4_refuseNoGroup : GoodIn wsX4_setMember (va_wsS RX4 39 yX4_refuseNoGroup wsX4_refuseNoGroup) := goodIn_app (goodIn_of _ (by decide +kernel)) ggX4_setMember_X4_refuseNoGroup
set_option maxRecDepth 20000 in
theorem ggX4_setMember_X4_refuseNoPerson : GoodIn wsX4_setMember wsX4_refuseNoPerson := goodIn_ca (goodIn_r _ [10, 6, 7] (by decide +kernel) (by decide +kernel)) (goodIn_sub (fun _ h => List.mem_cons_of_mem _ (List.mem_append_right _ h)) (by decide +kernel))
set_option maxRecDepth 20000 in
theorem gX4_setMember_X4_refuseNoPerson : GoodIn wsX4_setMember (va_wsS RX4 43 yX4_refuseNoPerson wsX4_refuseNoPerson) := goodIn_app (goodIn_of _ (by decide +kernel)) ggX4_setMember_X4_refuseNoPerson
set_option maxRecDepth 20000 in
theorem ggX4_setMember_X2_put : GoodIn wsX4_setMember wsX2_put := goodIn_r _ [15, 16, 17, 4, 18, 19, 20, 21, 14, 22, 23, 24, 25, 26, 27, 28, 32, 33, 34] (by decide +kernel) (by decide +kernel)
set_option maxRecDepth 20000 in
theorem gX4_setMember_X2_put : GoodIn wsX4_setMember (wsV RX4 46 RX2 yX2_put wsX2_put) := goodIn_app (goodIn_of _ (by decide +kernel)) ggX4_setMember_X2_put
theorem dX4_setMember_0 : decode cX4_setMember 0 = .ok (.iload_n 1, 1) := by decide +kernel
theorem dX4_setMember_1 : decode cX4_setMember 1 = .ok (.invokestatic 39, 3) := by decide +kernel
theorem dX4_setMember_4 : decode cX4_setMember 4 = .ok (.iload_n 2, 1) := by decide +kernel
theorem dX4_setMember_5 : decode cX4_setMember 5 = .ok (.invokestatic 43, 3) := by decide +kernel
theorem dX4_setMember_8 : decode cX4_setMember 8 = .ok (.aload_n 0, 1) := by decide +kernel
theorem dX4_setMember_9 : decode cX4_setMember 9 = .ok (.getfield 12, 3) := by decide +kernel
theorem dX4_setMember_12 : decode cX4_setMember 12 = .ok (.iload_n 1, 1) := by decide +kernel
theorem dX4_setMember_13 : decode cX4_setMember 13 = .ok (.iload_n 2, 1) := by decide +kernel
theorem dX4_setMember_14 : decode cX4_setMember 14 = .ok (.iload_n 3, 1) := by decide +kernel
theorem dX4_setMember_15 : decode cX4_setMember 15 = .ok (.invokevirtual 46, 3) := by decide +kernel
theorem dX4_setMember_18 : decode cX4_setMember 18 = .ok (.ireturn, 1) := by decide +kernel
set_option maxRecDepth 20000 in
theorem ggX4_nest_X4_refuseNoGroup : GoodIn wsX4_nest wsX4_refuseNoGroup := goodIn_ca (goodIn_r _ [7, 8, 9] (by decide +kernel) (by decide +kernel)) (goodIn_sub (fun _ h => List.mem_cons_of_mem _ (List.mem_append_right _ h)) (by decide +kernel))
set_option maxRecDepth 20000 in
theorem gX4_nest_X4_refuseNoGroup : GoodIn wsX4_nest (va_wsS RX4 39 yX4_refuseNoGroup wsX4_refuseNoGroup) := goodIn_app (goodIn_of _ (by decide +kernel)) ggX4_nest_X4_refuseNoGroup
set_option maxRecDepth 20000 in
theorem ggX4_nest_X2_reachedFrom : GoodIn wsX4_nest wsX2_reachedFrom := goodIn_r _ [14, 15, 16, 6, 17, 33, 34, 35] (by decide +kernel) (by decide +kernel)
set_option maxRecDepth 20000 in
theorem gX4_nest_X2_reachedFrom : GoodIn wsX4_nest (wsV RX4 50 RX2 yX2_reachedFrom wsX2_reachedFrom) := goodIn_app (goodIn_of _ (by decide +kernel)) ggX4_nest_X2_reachedFrom
set_option maxRecDepth 20000 in
theorem ggX4_nest_X4_contains : GoodIn wsX4_nest wsX4_contains := goodIn_r _ [17] (by decide +kernel) (by decide +kernel)
set_option maxRecDepth 20000 in
theorem gX4_nest_X4_contains : GoodIn wsX4_nest (va_wsS RX4 54 yX4_contains wsX4_contains) := goodIn_app (goodIn_of _ (by decide +kernel)) ggX4_nest_X4_contains
set_option maxRecDepth 20000 in
theorem ggX4_nest_X2_toggleInner : GoodIn wsX4_nest wsX2_toggleInner := goodIn_r _ [22, 15, 23, 24, 25, 13, 26, 27, 28, 29, 11, 12, 14, 16, 6, 17, 33, 34, 35] (by decide +kernel) (by decide +kernel)
set_option maxRecDepth 20000 in
theorem gX4_nest_X2_toggleInner : GoodIn wsX4_nest (wsV RX4 65 RX2 yX2_toggleInner wsX2_toggleInner) := goodIn_app (goodIn_of _ (by decide +kernel)) ggX4_nest_X2_toggleInner
theorem dX4_nest_0 : decode cX4_nest 0 = .ok (.iload_n 1, 1) := by decide +kernel
theorem dX4_nest_1 : decode cX4_nest 1 = .ok (.invokestatic 39, 3) := by decide +kernel
theorem dX4_nest_4 : decode cX4_nest 4 = .ok (.iload_n 2, 1) := by decide +kernel
theorem dX4_nest_5 : decode cX4_nest 5 = .ok (.invokestatic 39, 3) := by decide +kernel
theorem dX4_nest_8 : decode cX4_nest 8 = .ok (.aload_n 0, 1) := by decide +kernel
theorem dX4_nest_9 : decode cX4_nest 9 = .ok (.getfield 12, 3) := by decide +kernel
theorem dX4_nest_12 : decode cX4_nest 12 = .ok (.iload_n 2, 1) := by decide +kernel
theorem dX4_nest_13 : decode cX4_nest 13 = .ok (.invokevirtual 50, 3) := by decide +kernel
theorem dX4_nest_16 : decode cX4_nest 16 = .ok (.iload_n 1, 1) := by decide +kernel
theorem dX4_nest_17 : decode cX4_nest 17 = .ok (.invokestatic 54, 3) := by decide +kernel
theorem dX4_nest_20 : decode cX4_nest 20 = .ok (.ifCond .eq 13, 3) := by decide +kernel
theorem dX4_nest_23 : decode cX4_nest 23 = .ok (.new 58, 3) := by decide +kernel
theorem dX4_nest_26 : decode cX4_nest 26 = .ok (.dup, 1) := by decide +kernel
theorem dX4_nest_27 : decode cX4_nest 27 = .ok (.ldc 60, 2) := by decide +kernel
theorem dX4_nest_29 : decode cX4_nest 29 = .ok (.invokespecial 62, 3) := by decide +kernel
theorem dX4_nest_32 : decode cX4_nest 32 = .ok (.athrow, 1) := by decide +kernel
theorem dX4_nest_33 : decode cX4_nest 33 = .ok (.aload_n 0, 1) := by decide +kernel
theorem dX4_nest_34 : decode cX4_nest 34 = .ok (.getfield 12, 3) := by decide +kernel
theorem dX4_nest_37 : decode cX4_nest 37 = .ok (.iload_n 1, 1) := by decide +kernel
theorem dX4_nest_38 : decode cX4_nest 38 = .ok (.iload_n 2, 1) := by decide +kernel
theorem dX4_nest_39 : decode cX4_nest 39 = .ok (.invokevirtual 65, 3) := by decide +kernel
theorem dX4_nest_42 : decode cX4_nest 42 = .ok (.ireturn, 1) := by decide +kernel
set_option maxRecDepth 20000 in
theorem ggX4_members_X4_refuseNoGroup : GoodIn wsX4_members wsX4_refuseNoGroup := goodIn_ca (goodIn_r _ [5, 6, 7] (by decide +kernel) (by decide +kernel)) (goodIn_sub (fun _ h => List.mem_cons_of_mem _ (List.mem_append_right _ h)) (by decide +kernel))
set_option maxRecDepth 20000 in
theorem gX4_members_X4_refuseNoGroup : GoodIn wsX4_members (va_wsS RX4 39 yX4_refuseNoGroup wsX4_refuseNoGroup) := goodIn_app (goodIn_of _ (by decide +kernel)) ggX4_members_X4_refuseNoGroup
set_option maxRecDepth 20000 in
theorem ggX4_members_X2_everyoneIn : GoodIn wsX4_members wsX2_everyoneIn := goodIn_r _ [12, 13, 17, 18, 19] (by decide +kernel) (by decide +kernel)
set_option maxRecDepth 20000 in
theorem gX4_members_X2_everyoneIn : GoodIn wsX4_members (wsV RX4 68 RX2 yX2_everyoneIn wsX2_everyoneIn) := goodIn_app (goodIn_of _ (by decide +kernel)) ggX4_members_X2_everyoneIn
theorem dX4_members_0 : decode cX4_members 0 = .ok (.iload_n 1, 1) := by decide +kernel
theorem dX4_members_1 : decode cX4_members 1 = .ok (.invokestatic 39, 3) := by decide +kernel
theorem dX4_members_4 : decode cX4_members 4 = .ok (.aload_n 0, 1) := by decide +kernel
theorem dX4_members_5 : decode cX4_members 5 = .ok (.getfield 12, 3) := by decide +kernel
theorem dX4_members_8 : decode cX4_members 8 = .ok (.iload_n 1, 1) := by decide +kernel
theorem dX4_members_9 : decode cX4_members 9 = .ok (.invokevirtual 68, 3) := by decide +kernel
theorem dX4_members_12 : decode cX4_members 12 = .ok (.ireturn, 1) := by decide +kernel
set_option maxRecDepth 20000 in
theorem ggX4_addFolder_X4_folderAt : GoodIn wsX4_addFolder wsX4_folderAt := goodIn_ca (goodIn_r _ [11, 12, 13, 3, 14, 15, 16, 17, 18, 19, 20, 21, 22, 23, 24, 25, 26, 27, 28, 29, 30, 31, 32, 33, 34, 35, 36, 37, 123, 124, 125, 133, 134, 135] (by decide +kernel) (by decide +kernel)) (goodIn_sub (fun _ h => List.mem_cons_of_mem _ (List.mem_append_right _ h)) (by decide +kernel))
set_option maxRecDepth 20000 in
theorem gX4_addFolder_X4_folderAt : GoodIn wsX4_addFolder (wsV RX4 71 RX4 yX4_folderAt wsX4_folderAt) := goodIn_app (goodIn_of _ (by decide +kernel)) ggX4_addFolder_X4_folderAt
set_option maxRecDepth 20000 in
theorem ggX4_addFolder_X4_refuseNoPerson : GoodIn wsX4_addFolder wsX4_refuseNoPerson := goodIn_ca (goodIn_r _ [40, 12, 13] (by decide +kernel) (by decide +kernel)) (goodIn_sub (fun _ h => List.mem_cons_of_mem _ (List.mem_append_right _ h)) (by decide +kernel))
set_option maxRecDepth 20000 in
theorem gX4_addFolder_X4_refuseNoPerson : GoodIn wsX4_addFolder (va_wsS RX4 43 yX4_refuseNoPerson wsX4_refuseNoPerson) := goodIn_app (goodIn_of _ (by decide +kernel)) ggX4_addFolder_X4_refuseNoPerson
set_option maxRecDepth 20000 in
theorem ggX4_addFolder_Jx4a65c_size_8abf5 : GoodIn wsX4_addFolder wsJx4a65c_size_8abf5 := goodIn_r _ [19, 20, 133, 134, 135] (by decide +kernel) (by decide +kernel)
set_option maxRecDepth 20000 in
theorem gX4_addFolder_Jx4a65c_size_8abf5 : GoodIn wsX4_addFolder (wsV RX4 75 RJx4a65c yJx4a65c_size_8abf5 wsJx4a65c_size_8abf5) := goodIn_app (goodIn_of _ (by decide +kernel)) ggX4_addFolder_Jx4a65c_size_8abf5
set_option maxRecDepth 20000 in
theorem ggX4_addFolder_X1_init : GoodIn wsX4_addFolder wsX1_init := goodIn_r _ [43, 44, 45, 46, 47, 48, 18, 49, 50, 51, 52, 53, 54, 55, 56, 57, 58, 59, 60, 37, 61, 62, 63, 64, 65, 66, 67, 68, 69, 70, 133, 134, 135, 126, 127, 128, 129, 130, 131, 132] (by decide +kernel) (by decide +kernel)
set_option maxRecDepth 20000 in
theorem gX4_addFolder_X1_init : GoodIn wsX4_addFolder (wsX1_init) := ggX4_addFolder_X1_init
set_option maxRecDepth 20000 in
theorem ggX4_addFolder_Jx4a65c_add_9ea2d : GoodIn wsX4_addFolder wsJx4a65c_add_9ea2d := goodIn_r _ [74, 75, 76, 37, 20, 77, 78, 79, 18, 80, 81, 82, 83, 84, 85, 86, 87, 88, 60, 89, 90, 91, 92, 93, 94, 95, 96, 97, 98, 99, 100, 101, 102, 103, 104, 105, 106, 107, 108, 109, 110, 111, 112, 113, 114, 115, 116, 117, 118, 119, 120, 121, 122, 133, 134, 135] (by decide +kernel) (by decide +kernel)
set_option maxRecDepth 20000 in
theorem gX4_addFolder_Jx4a65c_add_9ea2d : GoodIn wsX4_addFolder (wsV RX4 35 RJx4a65c yJx4a65c_add_9ea2d wsJx4a65c_add_9ea2d) := goodIn_app (goodIn_of _ (by decide +kernel)) ggX4_addFolder_Jx4a65c_add_9ea2d
theorem dX4_addFolder_0 : decode cX4_addFolder 0 = .ok (.aload_n 0, 1) := by decide +kernel
theorem dX4_addFolder_1 : decode cX4_addFolder 1 = .ok (.iload_n 1, 1) := by decide +kernel
theorem dX4_addFolder_2 : decode cX4_addFolder 2 = .ok (.invokevirtual 71, 3) := by decide +kernel
theorem dX4_addFolder_5 : decode cX4_addFolder 5 = .ok (.astore_n 3, 1) := by decide +kernel
theorem dX4_addFolder_6 : decode cX4_addFolder 6 = .ok (.iload_n 2, 1) := by decide +kernel
theorem dX4_addFolder_7 : decode cX4_addFolder 7 = .ok (.invokestatic 43, 3) := by decide +kernel
theorem dX4_addFolder_10 : decode cX4_addFolder 10 = .ok (.aload_n 0, 1) := by decide +kernel
theorem dX4_addFolder_11 : decode cX4_addFolder 11 = .ok (.getfield 19, 3) := by decide +kernel
theorem dX4_addFolder_14 : decode cX4_addFolder 14 = .ok (.invokevirtual 75, 3) := by decide +kernel
theorem dX4_addFolder_17 : decode cX4_addFolder 17 = .ok (.bipush 20, 2) := by decide +kernel
theorem dX4_addFolder_19 : decode cX4_addFolder 19 = .ok (.if_icmp .lt 13, 3) := by decide +kernel
theorem dX4_addFolder_22 : decode cX4_addFolder 22 = .ok (.new 58, 3) := by decide +kernel
theorem dX4_addFolder_25 : decode cX4_addFolder 25 = .ok (.dup, 1) := by decide +kernel
theorem dX4_addFolder_26 : decode cX4_addFolder 26 = .ok (.ldc 79, 2) := by decide +kernel
theorem dX4_addFolder_28 : decode cX4_addFolder 28 = .ok (.invokespecial 62, 3) := by decide +kernel
theorem dX4_addFolder_31 : decode cX4_addFolder 31 = .ok (.athrow, 1) := by decide +kernel
theorem dX4_addFolder_32 : decode cX4_addFolder 32 = .ok (.aload_n 0, 1) := by decide +kernel
theorem dX4_addFolder_33 : decode cX4_addFolder 33 = .ok (.getfield 19, 3) := by decide +kernel
theorem dX4_addFolder_36 : decode cX4_addFolder 36 = .ok (.new 30, 3) := by decide +kernel
theorem dX4_addFolder_39 : decode cX4_addFolder 39 = .ok (.dup, 1) := by decide +kernel
theorem dX4_addFolder_40 : decode cX4_addFolder 40 = .ok (.aload_n 3, 1) := by decide +kernel
theorem dX4_addFolder_41 : decode cX4_addFolder 41 = .ok (.iload_n 2, 1) := by decide +kernel
theorem dX4_addFolder_42 : decode cX4_addFolder 42 = .ok (.invokespecial 32, 3) := by decide +kernel
theorem dX4_addFolder_45 : decode cX4_addFolder 45 = .ok (.invokevirtual 35, 3) := by decide +kernel
theorem dX4_addFolder_48 : decode cX4_addFolder 48 = .ok (.pop, 1) := by decide +kernel
theorem dX4_addFolder_49 : decode cX4_addFolder 49 = .ok (.aload_n 0, 1) := by decide +kernel
theorem dX4_addFolder_50 : decode cX4_addFolder 50 = .ok (.getfield 19, 3) := by decide +kernel
theorem dX4_addFolder_53 : decode cX4_addFolder 53 = .ok (.invokevirtual 75, 3) := by decide +kernel
theorem dX4_addFolder_56 : decode cX4_addFolder 56 = .ok (.iconst 1, 1) := by decide +kernel
theorem dX4_addFolder_57 : decode cX4_addFolder 57 = .ok (.isub, 1) := by decide +kernel
theorem dX4_addFolder_58 : decode cX4_addFolder 58 = .ok (.ireturn, 1) := by decide +kernel
set_option maxRecDepth 20000 in
theorem ggX4_setOwner_X4_folderAt : GoodIn wsX4_setOwner wsX4_folderAt := goodIn_ca (goodIn_r _ [6, 7, 8, 9, 10, 11, 12, 13, 14, 15, 16, 17, 18, 19, 20, 21, 22, 23, 24, 25, 26, 27, 28, 29, 30, 31, 32, 33, 44, 45, 46, 47, 48, 49] (by decide +kernel) (by decide +kernel)) (goodIn_sub (fun _ h => List.mem_cons_of_mem _ (List.mem_append_right _ h)) (by decide +kernel))
set_option maxRecDepth 20000 in
theorem gX4_setOwner_X4_folderAt : GoodIn wsX4_setOwner (wsV RX4 71 RX4 yX4_folderAt wsX4_folderAt) := goodIn_app (goodIn_of _ (by decide +kernel)) ggX4_setOwner_X4_folderAt
set_option maxRecDepth 20000 in
theorem ggX4_setOwner_X4_refuseNoPerson : GoodIn wsX4_setOwner wsX4_refuseNoPerson := goodIn_ca (goodIn_r _ [36, 7, 8] (by decide +kernel) (by decide +kernel)) (goodIn_sub (fun _ h => List.mem_cons_of_mem _ (List.mem_append_right _ h)) (by decide +kernel))
set_option maxRecDepth 20000 in
theorem gX4_setOwner_X4_refuseNoPerson : GoodIn wsX4_setOwner (va_wsS RX4 43 yX4_refuseNoPerson wsX4_refuseNoPerson) := goodIn_app (goodIn_of _ (by decide +kernel)) ggX4_setOwner_X4_refuseNoPerson
theorem dX4_setOwner_0 : decode cX4_setOwner 0 = .ok (.aload_n 0, 1) := by decide +kernel
theorem dX4_setOwner_1 : decode cX4_setOwner 1 = .ok (.iload_n 1, 1) := by decide +kernel
theorem dX4_setOwner_2 : decode cX4_setOwner 2 = .ok (.invokevirtual 71, 3) := by decide +kernel
theorem dX4_setOwner_5 : decode cX4_setOwner 5 = .ok (.astore_n 3, 1) := by decide +kernel
theorem dX4_setOwner_6 : decode cX4_setOwner 6 = .ok (.iload_n 2, 1) := by decide +kernel
theorem dX4_setOwner_7 : decode cX4_setOwner 7 = .ok (.invokestatic 43, 3) := by decide +kernel
theorem dX4_setOwner_10 : decode cX4_setOwner 10 = .ok (.aload_n 3, 1) := by decide +kernel
theorem dX4_setOwner_11 : decode cX4_setOwner 11 = .ok (.getfield 81, 3) := by decide +kernel
theorem dX4_setOwner_14 : decode cX4_setOwner 14 = .ok (.istore 4, 2) := by decide +kernel
theorem dX4_setOwner_16 : decode cX4_setOwner 16 = .ok (.aload_n 3, 1) := by decide +kernel
theorem dX4_setOwner_17 : decode cX4_setOwner 17 = .ok (.iload_n 2, 1) := by decide +kernel
theorem dX4_setOwner_18 : decode cX4_setOwner 18 = .ok (.putfield 81, 3) := by decide +kernel
theorem dX4_setOwner_21 : decode cX4_setOwner 21 = .ok (.iload 4, 2) := by decide +kernel
theorem dX4_setOwner_23 : decode cX4_setOwner 23 = .ok (.ireturn, 1) := by decide +kernel
set_option maxRecDepth 20000 in
theorem ggX4_setInherits_X4_folderAt : GoodIn wsX4_setInherits wsX4_folderAt := goodIn_ca (goodIn_r _ [6, 7, 8, 9, 10, 11, 12, 13, 14, 15, 16, 17, 18, 19, 20, 21, 22, 23, 24, 25, 26, 27, 28, 29, 30, 31, 32, 33, 41, 42, 43, 44, 45, 46] (by decide +kernel) (by decide +kernel)) (goodIn_sub (fun _ h => List.mem_cons_of_mem _ (List.mem_append_right _ h)) (by decide +kernel))
set_option maxRecDepth 20000 in
theorem gX4_setInherits_X4_folderAt : GoodIn wsX4_setInherits (wsV RX4 71 RX4 yX4_folderAt wsX4_folderAt) := goodIn_app (goodIn_of _ (by decide +kernel)) ggX4_setInherits_X4_folderAt
theorem dX4_setInherits_0 : decode cX4_setInherits 0 = .ok (.aload_n 0, 1) := by decide +kernel
theorem dX4_setInherits_1 : decode cX4_setInherits 1 = .ok (.iload_n 1, 1) := by decide +kernel
theorem dX4_setInherits_2 : decode cX4_setInherits 2 = .ok (.invokevirtual 71, 3) := by decide +kernel
theorem dX4_setInherits_5 : decode cX4_setInherits 5 = .ok (.astore_n 3, 1) := by decide +kernel
theorem dX4_setInherits_6 : decode cX4_setInherits 6 = .ok (.aload_n 3, 1) := by decide +kernel
theorem dX4_setInherits_7 : decode cX4_setInherits 7 = .ok (.getfield 85, 3) := by decide +kernel
theorem dX4_setInherits_10 : decode cX4_setInherits 10 = .ok (.istore 4, 2) := by decide +kernel
theorem dX4_setInherits_12 : decode cX4_setInherits 12 = .ok (.aload_n 3, 1) := by decide +kernel
theorem dX4_setInherits_13 : decode cX4_setInherits 13 = .ok (.iload_n 2, 1) := by decide +kernel
theorem dX4_setInherits_14 : decode cX4_setInherits 14 = .ok (.putfield 85, 3) := by decide +kernel
theorem dX4_setInherits_17 : decode cX4_setInherits 17 = .ok (.iload 4, 2) := by decide +kernel
theorem dX4_setInherits_19 : decode cX4_setInherits 19 = .ok (.ireturn, 1) := by decide +kernel
set_option maxRecDepth 20000 in
theorem ggX4_allow_X4_folderAt : GoodIn wsX4_allow wsX4_folderAt := goodIn_ca (goodIn_r _ [15, 1, 2, 16, 17, 18, 19, 20, 21, 22, 23, 24, 25, 26, 27, 28, 29, 30, 31, 32, 33, 34, 35, 36, 37, 38, 39, 40, 115, 116, 117, 118, 119, 120] (by decide +kernel) (by decide +kernel)) (goodIn_sub (fun _ h => List.mem_cons_of_mem _ (List.mem_append_left _ (List.mem_append_left _ (List.mem_append_right _ h)))) (by decide +kernel))
set_option maxRecDepth 20000 in
theorem gX4_allow_X4_folderAt : GoodIn wsX4_allow (wsV RX4 71 RX4 yX4_folderAt wsX4_folderAt) := goodIn_app (goodIn_of _ (by decide +kernel)) ggX4_allow_X4_folderAt
set_option maxRecDepth 20000 in
theorem ggX4_allow_Jx4a65c_size_8abf5 : GoodIn wsX4_allow wsJx4a65c_size_8abf5 := goodIn_r _ [22, 23, 118, 119, 120] (by decide +kernel) (by decide +kernel)
set_option maxRecDepth 20000 in
theorem gX4_allow_Jx4a65c_size_8abf5 : GoodIn wsX4_allow (wsV RX4 75 RJx4a65c yJx4a65c_size_8abf5 wsJx4a65c_size_8abf5) := goodIn_app (goodIn_of _ (by decide +kernel)) ggX4_allow_Jx4a65c_size_8abf5
set_option maxRecDepth 20000 in
theorem ggX4_allow_X0_init : GoodIn wsX4_allow wsX0_init := goodIn_r _ [43, 44, 45, 46, 47, 48, 49, 50, 111, 112, 113, 114] (by decide +kernel) (by decide +kernel)
set_option maxRecDepth 20000 in
theorem gX4_allow_X0_init : GoodIn wsX4_allow (wsX0_init) := ggX4_allow_X0_init
set_option maxRecDepth 20000 in
theorem ggX4_allow_Jx4a65c_add_9ea2d : GoodIn wsX4_allow wsJx4a65c_add_9ea2d := goodIn_r _ [54, 55, 56, 40, 23, 57, 58, 59, 21, 60, 61, 62, 63, 64, 65, 66, 67, 68, 69, 70, 71, 72, 73, 74, 75, 76, 77, 78, 79, 80, 81, 82, 83, 84, 85, 86, 87, 88, 89, 90, 91, 92, 93, 94, 95, 96, 97, 98, 99, 100, 101, 102, 103, 118, 119, 120] (by decide +kernel) (by decide +kernel)
set_option maxRecDepth 20000 in
theorem gX4_allow_Jx4a65c_add_9ea2d : GoodIn wsX4_allow (wsV RX4 35 RJx4a65c yJx4a65c_add_9ea2d wsJx4a65c_add_9ea2d) := goodIn_app (goodIn_of _ (by decide +kernel)) ggX4_allow_Jx4a65c_add_9ea2d
theorem dX4_allow_0 : decode cX4_allow 0 = .ok (.aload_n 0, 1) := by decide +kernel
theorem dX4_allow_1 : decode cX4_allow 1 = .ok (.iload_n 1, 1) := by decide +kernel
theorem dX4_allow_2 : decode cX4_allow 2 = .ok (.invokevirtual 71, 3) := by decide +kernel
theorem dX4_allow_5 : decode cX4_allow 5 = .ok (.astore 6, 2) := by decide +kernel
theorem dX4_allow_7 : decode cX4_allow 7 = .ok (.iload_n 2, 1) := by decide +kernel
theorem dX4_allow_8 : decode cX4_allow 8 = .ok (.ifCond .lt 9, 3) := by decide +kernel
theorem dX4_allow_11 : decode cX4_allow 11 = .ok (.iload_n 2, 1) := by decide +kernel
theorem dX4_allow_12 : decode cX4_allow 12 = .ok (.bipush 14, 2) := by decide +kernel
theorem dX4_allow_14 : decode cX4_allow 14 = .ok (.if_icmp .lt 13, 3) := by decide +kernel
theorem dX4_allow_17 : decode cX4_allow 17 = .ok (.new 89, 3) := by decide +kernel
theorem dX4_allow_20 : decode cX4_allow 20 = .ok (.dup, 1) := by decide +kernel
theorem dX4_allow_21 : decode cX4_allow 21 = .ok (.ldc 91, 2) := by decide +kernel
theorem dX4_allow_23 : decode cX4_allow 23 = .ok (.invokespecial 93, 3) := by decide +kernel
theorem dX4_allow_26 : decode cX4_allow 26 = .ok (.athrow, 1) := by decide +kernel
theorem dX4_allow_27 : decode cX4_allow 27 = .ok (.iload 4, 2) := by decide +kernel
theorem dX4_allow_29 : decode cX4_allow 29 = .ok (.iconst 1, 1) := by decide +kernel
theorem dX4_allow_30 : decode cX4_allow 30 = .ok (.if_icmp .lt 21, 3) := by decide +kernel
theorem dX4_allow_33 : decode cX4_allow 33 = .ok (.iload 4, 2) := by decide +kernel
theorem dX4_allow_35 : decode cX4_allow 35 = .ok (.bipush 7, 2) := by decide +kernel
theorem dX4_allow_37 : decode cX4_allow 37 = .ok (.if_icmp .gt 14, 3) := by decide +kernel
theorem dX4_allow_40 : decode cX4_allow 40 = .ok (.iload 5, 2) := by decide +kernel
theorem dX4_allow_42 : decode cX4_allow 42 = .ok (.ifCond .lt 9, 3) := by decide +kernel
theorem dX4_allow_45 : decode cX4_allow 45 = .ok (.iload 5, 2) := by decide +kernel
theorem dX4_allow_47 : decode cX4_allow 47 = .ok (.iconst 2, 1) := by decide +kernel
theorem dX4_allow_48 : decode cX4_allow 48 = .ok (.if_icmp .le 13, 3) := by decide +kernel
theorem dX4_allow_51 : decode cX4_allow 51 = .ok (.new 94, 3) := by decide +kernel
theorem dX4_allow_54 : decode cX4_allow 54 = .ok (.dup, 1) := by decide +kernel
theorem dX4_allow_55 : decode cX4_allow 55 = .ok (.ldc 96, 2) := by decide +kernel
theorem dX4_allow_57 : decode cX4_allow 57 = .ok (.invokespecial 98, 3) := by decide +kernel
theorem dX4_allow_60 : decode cX4_allow 60 = .ok (.athrow, 1) := by decide +kernel
theorem dX4_allow_61 : decode cX4_allow 61 = .ok (.aload 6, 2) := by decide +kernel
theorem dX4_allow_63 : decode cX4_allow 63 = .ok (.getfield 99, 3) := by decide +kernel
theorem dX4_allow_66 : decode cX4_allow 66 = .ok (.invokevirtual 75, 3) := by decide +kernel
theorem dX4_allow_69 : decode cX4_allow 69 = .ok (.bipush 6, 2) := by decide +kernel
theorem dX4_allow_71 : decode cX4_allow 71 = .ok (.if_icmp .lt 13, 3) := by decide +kernel
theorem dX4_allow_74 : decode cX4_allow 74 = .ok (.new 58, 3) := by decide +kernel
theorem dX4_allow_77 : decode cX4_allow 77 = .ok (.dup, 1) := by decide +kernel
theorem dX4_allow_78 : decode cX4_allow 78 = .ok (.ldc 102, 2) := by decide +kernel
theorem dX4_allow_80 : decode cX4_allow 80 = .ok (.invokespecial 62, 3) := by decide +kernel
theorem dX4_allow_83 : decode cX4_allow 83 = .ok (.athrow, 1) := by decide +kernel
theorem dX4_allow_84 : decode cX4_allow 84 = .ok (.aload 6, 2) := by decide +kernel
theorem dX4_allow_86 : decode cX4_allow 86 = .ok (.getfield 99, 3) := by decide +kernel
theorem dX4_allow_89 : decode cX4_allow 89 = .ok (.new 104, 3) := by decide +kernel
theorem dX4_allow_92 : decode cX4_allow 92 = .ok (.dup, 1) := by decide +kernel
theorem dX4_allow_93 : decode cX4_allow 93 = .ok (.iload_n 2, 1) := by decide +kernel
theorem dX4_allow_94 : decode cX4_allow 94 = .ok (.iload_n 3, 1) := by decide +kernel
theorem dX4_allow_95 : decode cX4_allow 95 = .ok (.iload 4, 2) := by decide +kernel
theorem dX4_allow_97 : decode cX4_allow 97 = .ok (.iload 5, 2) := by decide +kernel
theorem dX4_allow_99 : decode cX4_allow 99 = .ok (.invokespecial 106, 3) := by decide +kernel
theorem dX4_allow_102 : decode cX4_allow 102 = .ok (.invokevirtual 35, 3) := by decide +kernel
theorem dX4_allow_105 : decode cX4_allow 105 = .ok (.pop, 1) := by decide +kernel
theorem dX4_allow_106 : decode cX4_allow 106 = .ok (.aload 6, 2) := by decide +kernel
theorem dX4_allow_108 : decode cX4_allow 108 = .ok (.getfield 99, 3) := by decide +kernel
theorem dX4_allow_111 : decode cX4_allow 111 = .ok (.invokevirtual 75, 3) := by decide +kernel
theorem dX4_allow_114 : decode cX4_allow 114 = .ok (.ireturn, 1) := by decide +kernel
set_option maxRecDepth 20000 in
theorem ggX4_drop_X4_folderAt : GoodIn wsX4_drop wsX4_folderAt := goodIn_ca (goodIn_r _ [10, 1, 2, 11, 12, 13, 14, 15, 16, 17, 18, 19, 20, 21, 22, 23, 24, 25, 26, 27, 28, 29, 30, 31, 32, 33, 34, 35, 61, 62, 63, 64, 65, 66] (by decide +kernel) (by decide +kernel)) (goodIn_sub (fun _ h => List.mem_cons_of_mem _ (List.mem_append_right _ h)) (by decide +kernel))
set_option maxRecDepth 20000 in
theorem gX4_drop_X4_folderAt : GoodIn wsX4_drop (wsV RX4 71 RX4 yX4_folderAt wsX4_folderAt) := goodIn_app (goodIn_of _ (by decide +kernel)) ggX4_drop_X4_folderAt
set_option maxRecDepth 20000 in
theorem ggX4_drop_Jx4a65c_size_8abf5 : GoodIn wsX4_drop wsJx4a65c_size_8abf5 := goodIn_r _ [17, 18, 64, 65, 66] (by decide +kernel) (by decide +kernel)
set_option maxRecDepth 20000 in
theorem gX4_drop_Jx4a65c_size_8abf5 : GoodIn wsX4_drop (wsV RX4 75 RJx4a65c yJx4a65c_size_8abf5 wsJx4a65c_size_8abf5) := goodIn_app (goodIn_of _ (by decide +kernel)) ggX4_drop_Jx4a65c_size_8abf5
set_option maxRecDepth 20000 in
theorem ggX4_drop_Jx4a65c_remove_915e3 : GoodIn wsX4_drop wsJx4a65c_remove_915e3 := goodIn_r _ [39, 18, 35, 23, 24, 25, 26, 27, 28, 29, 30, 40, 41, 42, 16, 43, 44, 45, 46, 47, 48, 49, 64, 65, 66] (by decide +kernel) (by decide +kernel)
set_option maxRecDepth 20000 in
theorem gX4_drop_Jx4a65c_remove_915e3 : GoodIn wsX4_drop (wsV RX4 111 RJx4a65c yJx4a65c_remove_915e3 wsJx4a65c_remove_915e3) := goodIn_app (goodIn_of _ (by decide +kernel)) ggX4_drop_Jx4a65c_remove_915e3
theorem dX4_drop_0 : decode cX4_drop 0 = .ok (.aload_n 0, 1) := by decide +kernel
theorem dX4_drop_1 : decode cX4_drop 1 = .ok (.iload_n 1, 1) := by decide +kernel
theorem dX4_drop_2 : decode cX4_drop 2 = .ok (.invokevirtual 71, 3) := by decide +kernel
theorem dX4_drop_5 : decode cX4_drop 5 = .ok (.astore_n 3, 1) := by decide +kernel
theorem dX4_drop_6 : decode cX4_drop 6 = .ok (.iload_n 2, 1) := by decide +kernel
theorem dX4_drop_7 : decode cX4_drop 7 = .ok (.ifCond .lt 14, 3) := by decide +kernel
theorem dX4_drop_10 : decode cX4_drop 10 = .ok (.iload_n 2, 1) := by decide +kernel
theorem dX4_drop_11 : decode cX4_drop 11 = .ok (.aload_n 3, 1) := by decide +kernel
theorem dX4_drop_12 : decode cX4_drop 12 = .ok (.getfield 99, 3) := by decide +kernel
theorem dX4_drop_15 : decode cX4_drop 15 = .ok (.invokevirtual 75, 3) := by decide +kernel
theorem dX4_drop_18 : decode cX4_drop 18 = .ok (.if_icmp .lt 13, 3) := by decide +kernel
theorem dX4_drop_21 : decode cX4_drop 21 = .ok (.new 89, 3) := by decide +kernel
theorem dX4_drop_24 : decode cX4_drop 24 = .ok (.dup, 1) := by decide +kernel
theorem dX4_drop_25 : decode cX4_drop 25 = .ok (.ldc 109, 2) := by decide +kernel
theorem dX4_drop_27 : decode cX4_drop 27 = .ok (.invokespecial 93, 3) := by decide +kernel
theorem dX4_drop_30 : decode cX4_drop 30 = .ok (.athrow, 1) := by decide +kernel
theorem dX4_drop_31 : decode cX4_drop 31 = .ok (.aload_n 3, 1) := by decide +kernel
theorem dX4_drop_32 : decode cX4_drop 32 = .ok (.getfield 99, 3) := by decide +kernel
theorem dX4_drop_35 : decode cX4_drop 35 = .ok (.iload_n 2, 1) := by decide +kernel
theorem dX4_drop_36 : decode cX4_drop 36 = .ok (.invokevirtual 111, 3) := by decide +kernel
theorem dX4_drop_39 : decode cX4_drop 39 = .ok (.checkcast 104, 3) := by decide +kernel
theorem dX4_drop_42 : decode cX4_drop 42 = .ok (.getfield 115, 3) := by decide +kernel
theorem dX4_drop_45 : decode cX4_drop 45 = .ok (.ireturn, 1) := by decide +kernel
set_option maxRecDepth 20000 in
theorem ggX4_folders_Jx4a65c_size_8abf5 : GoodIn wsX4_folders wsJx4a65c_size_8abf5 := goodIn_r _ [6, 7, 11, 12, 13] (by decide +kernel) (by decide +kernel)
set_option maxRecDepth 20000 in
theorem gX4_folders_Jx4a65c_size_8abf5 : GoodIn wsX4_folders (wsV RX4 75 RJx4a65c yJx4a65c_size_8abf5 wsJx4a65c_size_8abf5) := goodIn_app (goodIn_of _ (by decide +kernel)) ggX4_folders_Jx4a65c_size_8abf5
theorem dX4_folders_0 : decode cX4_folders 0 = .ok (.aload_n 0, 1) := by decide +kernel
theorem dX4_folders_1 : decode cX4_folders 1 = .ok (.getfield 19, 3) := by decide +kernel
theorem dX4_folders_4 : decode cX4_folders 4 = .ok (.invokevirtual 75, 3) := by decide +kernel
theorem dX4_folders_7 : decode cX4_folders 7 = .ok (.ireturn, 1) := by decide +kernel
set_option maxRecDepth 20000 in
theorem ggX4_rights_X4_refuseNoPerson : GoodIn wsX4_rights wsX4_refuseNoPerson := goodIn_ca (goodIn_r _ [4, 5, 6] (by decide +kernel) (by decide +kernel)) (goodIn_sub (fun _ h => List.mem_cons_of_mem _ (List.mem_append_right _ h)) (by decide +kernel))
set_option maxRecDepth 20000 in
theorem gX4_rights_X4_refuseNoPerson : GoodIn wsX4_rights (va_wsS RX4 43 yX4_refuseNoPerson wsX4_refuseNoPerson) := goodIn_app (goodIn_of _ (by decide +kernel)) ggX4_rights_X4_refuseNoPerson
set_option maxRecDepth 20000 in
theorem ggX4_rights_X4_folderAt : GoodIn wsX4_rights wsX4_folderAt := goodIn_ca (goodIn_r _ [10, 5, 6, 11, 12, 13, 14, 15, 16, 17, 18, 19, 20, 21, 22, 23, 24, 25, 26, 27, 28, 29, 30, 31, 32, 33, 34, 35, 73, 74, 75, 76, 77, 78] (by decide +kernel) (by decide +kernel)) (goodIn_sub (fun _ h => List.mem_cons_of_mem _ (List.mem_append_right _ h)) (by decide +kernel))
set_option maxRecDepth 20000 in
theorem gX4_rights_X4_folderAt : GoodIn wsX4_rights (wsV RX4 71 RX4 yX4_folderAt wsX4_folderAt) := goodIn_app (goodIn_of _ (by decide +kernel)) ggX4_rights_X4_folderAt
set_option maxRecDepth 20000 in
theorem ggX4_rights_X4_rightsByEntries : GoodIn wsX4_rights wsX4_rightsByEntries := goodIn_r _ [39, 40, 41, 42, 43, 44, 13, 14, 15, 16, 17, 18, 19, 20, 21, 22, 23, 24, 25, 26, 27, 28, 29, 30, 31, 32, 33, 34, 35, 45, 46, 47, 48, 49, 50, 51, 52, 53, 3, 54, 55, 56, 57, 58, 59, 60, 61, 62, 63, 64, 65, 66, 67, 68, 69, 70, 71, 72, 79, 80, 81, 82, 83, 84, 85, 86, 87, 88, 89, 76, 77, 78, 73, 74, 75, 90, 91, 92] (by decide +kernel) (by decide +kernel)
set_option maxRecDepth 20000 in
theorem gX4_rights_X4_rightsByEntries : GoodIn wsX4_rights (wsV RX4 118 RX4 yX4_rightsByEntries wsX4_rightsByEntries) := goodIn_app (goodIn_of _ (by decide +kernel)) ggX4_rights_X4_rightsByEntries
theorem dX4_rights_0 : decode cX4_rights 0 = .ok (.iload_n 1, 1) := by decide +kernel
theorem dX4_rights_1 : decode cX4_rights 1 = .ok (.invokestatic 43, 3) := by decide +kernel
theorem dX4_rights_4 : decode cX4_rights 4 = .ok (.aload_n 0, 1) := by decide +kernel
theorem dX4_rights_5 : decode cX4_rights 5 = .ok (.iload_n 1, 1) := by decide +kernel
theorem dX4_rights_6 : decode cX4_rights 6 = .ok (.aload_n 0, 1) := by decide +kernel
theorem dX4_rights_7 : decode cX4_rights 7 = .ok (.iload_n 2, 1) := by decide +kernel
theorem dX4_rights_8 : decode cX4_rights 8 = .ok (.invokevirtual 71, 3) := by decide +kernel
theorem dX4_rights_11 : decode cX4_rights 11 = .ok (.invokevirtual 118, 3) := by decide +kernel
theorem dX4_rights_14 : decode cX4_rights 14 = .ok (.ireturn, 1) := by decide +kernel
set_option maxRecDepth 20000 in
theorem ggX4_rightsBackwards_X4_refuseNoPerson : GoodIn wsX4_rightsBackwards wsX4_refuseNoPerson := goodIn_ca (goodIn_r _ [4, 5, 6] (by decide +kernel) (by decide +kernel)) (goodIn_sub (fun _ h => List.mem_cons_of_mem _ (List.mem_append_right _ h)) (by decide +kernel))
set_option maxRecDepth 20000 in
theorem gX4_rightsBackwards_X4_refuseNoPerson : GoodIn wsX4_rightsBackwards (va_wsS RX4 43 yX4_refuseNoPerson wsX4_refuseNoPerson) := goodIn_app (goodIn_of _ (by decide +kernel)) ggX4_rightsBackwards_X4_refuseNoPerson
set_option maxRecDepth 20000 in
theorem ggX4_rightsBackwards_X4_folderAt : GoodIn wsX4_rightsBackwards wsX4_folderAt := goodIn_ca (goodIn_r _ [10, 5, 6, 11, 12, 13, 14, 15, 16, 17, 18, 19, 20, 21, 22, 23, 24, 25, 26, 27, 28, 29, 30, 31, 32, 33, 34, 35, 81, 82, 83, 84, 85, 86] (by decide +kernel) (by decide +kernel)) (goodIn_sub (fun _ h => List.mem_cons_of_mem _ (List.mem_append_right _ h)) (by decide +kernel))
set_option maxRecDepth 20000 in
theorem gX4_rightsBackwards_X4_folderAt : GoodIn wsX4_rightsBackwards (wsV RX4 71 RX4 yX4_folderAt wsX4_folderAt) := goodIn_app (goodIn_of _ (by decide +kernel)) ggX4_rightsBackwards_X4_folderAt
set_option maxRecDepth 20000 in
theorem ggX4_rightsBackwards_X4_rightsByOverruling : GoodIn wsX4_rightsBackwards wsX4_rightsByOverruling := goodIn_r _ [39, 40, 41, 42, 43, 44, 45, 46, 47, 48, 49, 50, 51, 52, 53, 54, 55, 56, 57, 58, 59, 13, 14, 15, 16, 17, 18, 19, 20, 21, 22, 23, 24, 25, 26, 27, 28, 29, 30, 31, 32, 33, 34, 35, 60, 61, 62, 63, 64, 65, 66, 67, 68, 3, 69, 70, 71, 72, 73, 74, 75, 76, 77, 78, 79, 80, 87, 88, 89, 90, 91, 92, 93, 94, 95, 96, 97, 84, 85, 86, 81, 82, 83, 98, 99, 100] (by decide +kernel) (by decide +kernel)
set_option maxRecDepth 20000 in
theorem gX4_rightsBackwards_X4_rightsByOverruling : GoodIn wsX4_rightsBackwards (wsV RX4 122 RX4 yX4_rightsByOverruling wsX4_rightsByOverruling) := goodIn_app (goodIn_of _ (by decide +kernel)) ggX4_rightsBackwards_X4_rightsByOverruling
theorem dX4_rightsBackwards_0 : decode cX4_rightsBackwards 0 = .ok (.iload_n 1, 1) := by decide +kernel
theorem dX4_rightsBackwards_1 : decode cX4_rightsBackwards 1 = .ok (.invokestatic 43, 3) := by decide +kernel
theorem dX4_rightsBackwards_4 : decode cX4_rightsBackwards 4 = .ok (.aload_n 0, 1) := by decide +kernel
theorem dX4_rightsBackwards_5 : decode cX4_rightsBackwards 5 = .ok (.iload_n 1, 1) := by decide +kernel
theorem dX4_rightsBackwards_6 : decode cX4_rightsBackwards 6 = .ok (.aload_n 0, 1) := by decide +kernel
theorem dX4_rightsBackwards_7 : decode cX4_rightsBackwards 7 = .ok (.iload_n 2, 1) := by decide +kernel
theorem dX4_rightsBackwards_8 : decode cX4_rightsBackwards 8 = .ok (.invokevirtual 71, 3) := by decide +kernel
theorem dX4_rightsBackwards_11 : decode cX4_rightsBackwards 11 = .ok (.invokevirtual 122, 3) := by decide +kernel
theorem dX4_rightsBackwards_14 : decode cX4_rightsBackwards 14 = .ok (.ireturn, 1) := by decide +kernel
set_option maxRecDepth 20000 in
theorem ggX4_groupOf_X4_folderAt : GoodIn wsX4_groupOf wsX4_folderAt := goodIn_ca (goodIn_r _ [6, 7, 8, 9, 10, 11, 12, 13, 14, 15, 16, 17, 18, 19, 20, 21, 22, 23, 24, 25, 26, 27, 28, 29, 30, 31, 32, 33, 128, 129, 130, 131, 132, 133] (by decide +kernel) (by decide +kernel)) (goodIn_sub (fun _ h => List.mem_cons_of_mem _ (List.mem_append_right _ h)) (by decide +kernel))
set_option maxRecDepth 20000 in
theorem gX4_groupOf_X4_folderAt : GoodIn wsX4_groupOf (wsV RX4 71 RX4 yX4_folderAt wsX4_folderAt) := goodIn_app (goodIn_of _ (by decide +kernel)) ggX4_groupOf_X4_folderAt
set_option maxRecDepth 20000 in
theorem ggX4_groupOf_X4_mappingOf : GoodIn wsX4_groupOf wsX4_mappingOf := goodIn_r _ [37, 38, 39, 40, 41, 42, 5, 43, 44, 45, 46, 47, 48, 49, 50, 51, 52, 53, 11, 12, 13, 14, 15, 16, 17, 18, 19, 20, 21, 22, 23, 24, 25, 26, 27, 28, 29, 30, 31, 32, 33, 54, 55, 56, 57, 58, 59, 60, 61, 62, 63, 64, 65, 66, 67, 68, 69, 70, 71, 72, 73, 74, 75, 76, 77, 78, 79, 80, 81, 82, 83, 84, 85, 86, 87, 88, 89, 90, 91, 92, 93, 94, 95, 96, 97, 98, 99, 100, 101, 102, 103, 104, 105, 106, 107, 108, 109, 110, 111, 112, 113, 114, 115, 116, 117, 118, 119, 120, 128, 129, 130, 121, 122, 123, 124, 125, 126, 127, 134, 135, 136, 137, 138, 139, 140, 141, 142, 143, 144, 131, 132, 133, 145, 146, 147] (by decide +kernel) (by decide +kernel)
set_option maxRecDepth 20000 in
theorem gX4_groupOf_X4_mappingOf : GoodIn wsX4_groupOf (wsV RX4 125 RX4 yX4_mappingOf wsX4_mappingOf) := goodIn_app (goodIn_of _ (by decide +kernel)) ggX4_groupOf_X4_mappingOf
theorem dX4_groupOf_0 : decode cX4_groupOf 0 = .ok (.aload_n 0, 1) := by decide +kernel
theorem dX4_groupOf_1 : decode cX4_groupOf 1 = .ok (.aload_n 0, 1) := by decide +kernel
theorem dX4_groupOf_2 : decode cX4_groupOf 2 = .ok (.iload_n 1, 1) := by decide +kernel
theorem dX4_groupOf_3 : decode cX4_groupOf 3 = .ok (.invokevirtual 71, 3) := by decide +kernel
theorem dX4_groupOf_6 : decode cX4_groupOf 6 = .ok (.invokevirtual 125, 3) := by decide +kernel
theorem dX4_groupOf_9 : decode cX4_groupOf 9 = .ok (.getfield 129, 3) := by decide +kernel
theorem dX4_groupOf_12 : decode cX4_groupOf 12 = .ok (.ireturn, 1) := by decide +kernel
set_option maxRecDepth 20000 in
theorem ggX4_bits_X4_folderAt : GoodIn wsX4_bits wsX4_folderAt := goodIn_ca (goodIn_r _ [7, 8, 9, 10, 11, 12, 13, 14, 15, 16, 17, 18, 19, 20, 21, 22, 23, 24, 25, 26, 27, 28, 29, 30, 31, 32, 33, 34, 129, 130, 131, 132, 133, 134] (by decide +kernel) (by decide +kernel)) (goodIn_sub (fun _ h => List.mem_cons_of_mem _ (List.mem_append_right _ h)) (by decide +kernel))
set_option maxRecDepth 20000 in
theorem gX4_bits_X4_folderAt : GoodIn wsX4_bits (wsV RX4 71 RX4 yX4_folderAt wsX4_folderAt) := goodIn_app (goodIn_of _ (by decide +kernel)) ggX4_bits_X4_folderAt
set_option maxRecDepth 20000 in
theorem ggX4_bits_X4_mappingOf : GoodIn wsX4_bits wsX4_mappingOf := goodIn_r _ [38, 39, 40, 41, 42, 43, 6, 44, 45, 46, 47, 48, 49, 50, 51, 52, 53, 54, 12, 13, 14, 15, 16, 17, 18, 19, 20, 21, 22, 23, 24, 25, 26, 27, 28, 29, 30, 31, 32, 33, 34, 55, 56, 57, 58, 59, 60, 61, 62, 63, 64, 65, 66, 67, 68, 69, 70, 71, 72, 73, 74, 75, 76, 77, 78, 79, 80, 81, 82, 83, 84, 85, 86, 87, 88, 89, 90, 91, 92, 93, 94, 95, 96, 97, 98, 99, 100, 101, 102, 103, 104, 105, 106, 107, 108, 109, 110, 111, 112, 113, 114, 115, 116, 117, 118, 119, 120, 121, 129, 130, 131, 122, 123, 124, 125, 126, 127, 128, 135, 136, 137, 138, 139, 140, 141, 142, 143, 144, 145, 132, 133, 134, 146, 147, 148] (by decide +kernel) (by decide +kernel)
set_option maxRecDepth 20000 in
theorem gX4_bits_X4_mappingOf : GoodIn wsX4_bits (wsV RX4 125 RX4 yX4_mappingOf wsX4_mappingOf) := goodIn_app (goodIn_of _ (by decide +kernel)) ggX4_bits_X4_mappingOf
theorem dX4_bits_0 : decode cX4_bits 0 = .ok (.aload_n 0, 1) := by decide +kernel
theorem dX4_bits_1 : decode cX4_bits 1 = .ok (.aload_n 0, 1) := by decide +kernel
theorem dX4_bits_2 : decode cX4_bits 2 = .ok (.iload_n 1, 1) := by decide +kernel
theorem dX4_bits_3 : decode cX4_bits 3 = .ok (.invokevirtual 71, 3) := by decide +kernel
theorem dX4_bits_6 : decode cX4_bits 6 = .ok (.invokevirtual 125, 3) := by decide +kernel
theorem dX4_bits_9 : decode cX4_bits 9 = .ok (.astore_n 2, 1) := by decide +kernel
theorem dX4_bits_10 : decode cX4_bits 10 = .ok (.bipush 10, 2) := by decide +kernel
theorem dX4_bits_12 : decode cX4_bits 12 = .ok (.aload_n 2, 1) := by decide +kernel
theorem dX4_bits_13 : decode cX4_bits 13 = .ok (.getfield 132, 3) := by decide +kernel
theorem dX4_bits_16 : decode cX4_bits 16 = .ok (.imul, 1) := by decide +kernel
theorem dX4_bits_17 : decode cX4_bits 17 = .ok (.aload_n 2, 1) := by decide +kernel
theorem dX4_bits_18 : decode cX4_bits 18 = .ok (.getfield 135, 3) := by decide +kernel
theorem dX4_bits_21 : decode cX4_bits 21 = .ok (.iadd, 1) := by decide +kernel
theorem dX4_bits_22 : decode cX4_bits 22 = .ok (.ireturn, 1) := by decide +kernel
set_option maxRecDepth 20000 in
theorem ggX4_named_X4_folderAt : GoodIn wsX4_named wsX4_folderAt := goodIn_ca (goodIn_r _ [6, 7, 8, 9, 10, 11, 12, 13, 14, 15, 16, 17, 18, 19, 20, 21, 22, 23, 24, 25, 26, 27, 28, 29, 30, 31, 32, 33, 128, 129, 130, 131, 132, 133] (by decide +kernel) (by decide +kernel)) (goodIn_sub (fun _ h => List.mem_cons_of_mem _ (List.mem_append_right _ h)) (by decide +kernel))
set_option maxRecDepth 20000 in
theorem gX4_named_X4_folderAt : GoodIn wsX4_named (wsV RX4 71 RX4 yX4_folderAt wsX4_folderAt) := goodIn_app (goodIn_of _ (by decide +kernel)) ggX4_named_X4_folderAt
set_option maxRecDepth 20000 in
theorem ggX4_named_X4_mappingOf : GoodIn wsX4_named wsX4_mappingOf := goodIn_r _ [37, 38, 39, 40, 41, 42, 5, 43, 44, 45, 46, 47, 48, 49, 50, 51, 52, 53, 11, 12, 13, 14, 15, 16, 17, 18, 19, 20, 21, 22, 23, 24, 25, 26, 27, 28, 29, 30, 31, 32, 33, 54, 55, 56, 57, 58, 59, 60, 61, 62, 63, 64, 65, 66, 67, 68, 69, 70, 71, 72, 73, 74, 75, 76, 77, 78, 79, 80, 81, 82, 83, 84, 85, 86, 87, 88, 89, 90, 91, 92, 93, 94, 95, 96, 97, 98, 99, 100, 101, 102, 103, 104, 105, 106, 107, 108, 109, 110, 111, 112, 113, 114, 115, 116, 117, 118, 119, 120, 128, 129, 130, 121, 122, 123, 124, 125, 126, 127, 134, 135, 136, 137, 138, 139, 140, 141, 142, 143, 144, 131, 132, 133, 145, 146, 147] (by decide +kernel) (by decide +kernel)
set_option maxRecDepth 20000 in
theorem gX4_named_X4_mappingOf : GoodIn wsX4_named (wsV RX4 125 RX4 yX4_mappingOf wsX4_mappingOf) := goodIn_app (goodIn_of _ (by decide +kernel)) ggX4_named_X4_mappingOf
theorem dX4_named_0 : decode cX4_named 0 = .ok (.aload_n 0, 1) := by decide +kernel
theorem dX4_named_1 : decode cX4_named 1 = .ok (.aload_n 0, 1) := by decide +kernel
theorem dX4_named_2 : decode cX4_named 2 = .ok (.iload_n 1, 1) := by decide +kernel
theorem dX4_named_3 : decode cX4_named 3 = .ok (.invokevirtual 71, 3) := by decide +kernel
theorem dX4_named_6 : decode cX4_named 6 = .ok (.invokevirtual 125, 3) := by decide +kernel
theorem dX4_named_9 : decode cX4_named 9 = .ok (.getfield 138, 3) := by decide +kernel
theorem dX4_named_12 : decode cX4_named 12 = .ok (.ireturn, 1) := by decide +kernel
set_option maxRecDepth 20000 in
theorem ggX4_mapped_X4_refuseNoPerson : GoodIn wsX4_mapped wsX4_refuseNoPerson := goodIn_ca (goodIn_r _ [5, 6, 7] (by decide +kernel) (by decide +kernel)) (goodIn_sub (fun _ h => List.mem_cons_of_mem _ (List.mem_append_right _ h)) (by decide +kernel))
set_option maxRecDepth 20000 in
theorem gX4_mapped_X4_refuseNoPerson : GoodIn wsX4_mapped (va_wsS RX4 43 yX4_refuseNoPerson wsX4_refuseNoPerson) := goodIn_app (goodIn_of _ (by decide +kernel)) ggX4_mapped_X4_refuseNoPerson
set_option maxRecDepth 20000 in
theorem ggX4_mapped_X4_folderAt : GoodIn wsX4_mapped wsX4_folderAt := goodIn_ca (goodIn_r _ [11, 6, 7, 12, 13, 14, 15, 16, 17, 18, 19, 20, 21, 22, 23, 24, 25, 26, 27, 28, 29, 30, 31, 32, 33, 34, 35, 36, 131, 132, 133, 134, 135, 136] (by decide +kernel) (by decide +kernel)) (goodIn_sub (fun _ h => List.mem_cons_of_mem _ (List.mem_append_right _ h)) (by decide +kernel))
set_option maxRecDepth 20000 in
theorem gX4_mapped_X4_folderAt : GoodIn wsX4_mapped (wsV RX4 71 RX4 yX4_folderAt wsX4_folderAt) := goodIn_app (goodIn_of _ (by decide +kernel)) ggX4_mapped_X4_folderAt
set_option maxRecDepth 20000 in
theorem ggX4_mapped_X4_mappingOf : GoodIn wsX4_mapped wsX4_mappingOf := goodIn_r _ [40, 41, 42, 43, 44, 45, 4, 46, 47, 48, 49, 50, 51, 52, 53, 54, 55, 56, 14, 15, 16, 17, 18, 19, 20, 21, 22, 23, 24, 25, 26, 27, 28, 29, 30, 31, 32, 33, 34, 35, 36, 57, 58, 59, 60, 61, 62, 63, 64, 65, 66, 67, 68, 69, 70, 71, 72, 73, 74, 75, 76, 77, 78, 79, 80, 81, 82, 83, 84, 85, 86, 87, 88, 89, 90, 91, 92, 93, 94, 95, 96, 97, 98, 99, 100, 101, 102, 103, 104, 105, 106, 107, 108, 109, 110, 111, 112, 113, 114, 115, 116, 117, 118, 119, 120, 121, 122, 123, 131, 132, 133, 124, 125, 126, 127, 128, 129, 130, 137, 138, 139, 140, 141, 142, 143, 144, 145, 146, 147, 134, 135, 136, 148, 149, 150] (by decide +kernel) (by decide +kernel)
set_option maxRecDepth 20000 in
theorem gX4_mapped_X4_mappingOf : GoodIn wsX4_mapped (wsV RX4 125 RX4 yX4_mappingOf wsX4_mappingOf) := goodIn_app (goodIn_of _ (by decide +kernel)) ggX4_mapped_X4_mappingOf
theorem dX4_mapped_0 : decode cX4_mapped 0 = .ok (.iload_n 1, 1) := by decide +kernel
theorem dX4_mapped_1 : decode cX4_mapped 1 = .ok (.invokestatic 43, 3) := by decide +kernel
theorem dX4_mapped_4 : decode cX4_mapped 4 = .ok (.aload_n 0, 1) := by decide +kernel
theorem dX4_mapped_5 : decode cX4_mapped 5 = .ok (.aload_n 0, 1) := by decide +kernel
theorem dX4_mapped_6 : decode cX4_mapped 6 = .ok (.iload_n 2, 1) := by decide +kernel
theorem dX4_mapped_7 : decode cX4_mapped 7 = .ok (.invokevirtual 71, 3) := by decide +kernel
theorem dX4_mapped_10 : decode cX4_mapped 10 = .ok (.invokevirtual 125, 3) := by decide +kernel
theorem dX4_mapped_13 : decode cX4_mapped 13 = .ok (.getfield 141, 3) := by decide +kernel
theorem dX4_mapped_16 : decode cX4_mapped 16 = .ok (.iload_n 1, 1) := by decide +kernel
theorem dX4_mapped_17 : decode cX4_mapped 17 = .ok (.iaload, 1) := by decide +kernel
theorem dX4_mapped_18 : decode cX4_mapped 18 = .ok (.ireturn, 1) := by decide +kernel
set_option maxRecDepth 20000 in
theorem ggX4_loss_X4_folderAt : GoodIn wsX4_loss wsX4_folderAt := goodIn_ca (goodIn_r _ [6, 7, 8, 9, 10, 11, 12, 13, 14, 15, 16, 17, 18, 19, 20, 21, 22, 23, 24, 25, 26, 27, 28, 29, 30, 31, 32, 33, 127, 128, 129, 130, 131, 132] (by decide +kernel) (by decide +kernel)) (goodIn_sub (fun _ h => List.mem_cons_of_mem _ (List.mem_append_right _ h)) (by decide +kernel))
set_option maxRecDepth 20000 in
theorem gX4_loss_X4_folderAt : GoodIn wsX4_loss (wsV RX4 71 RX4 yX4_folderAt wsX4_folderAt) := goodIn_app (goodIn_of _ (by decide +kernel)) ggX4_loss_X4_folderAt
set_option maxRecDepth 20000 in
theorem ggX4_loss_X4_mappingOf : GoodIn wsX4_loss wsX4_mappingOf := goodIn_r _ [37, 38, 1, 39, 40, 41, 5, 42, 43, 44, 45, 46, 47, 48, 49, 50, 51, 52, 11, 12, 13, 14, 15, 16, 17, 18, 19, 20, 21, 22, 23, 24, 25, 26, 27, 28, 29, 30, 31, 32, 33, 53, 54, 55, 56, 57, 58, 59, 60, 61, 62, 63, 64, 65, 66, 67, 68, 69, 70, 71, 72, 73, 74, 75, 76, 77, 78, 79, 80, 81, 82, 83, 84, 85, 86, 87, 88, 89, 90, 91, 92, 93, 94, 95, 96, 97, 98, 99, 100, 101, 102, 103, 104, 105, 106, 107, 108, 109, 110, 111, 112, 113, 114, 115, 116, 117, 118, 119, 127, 128, 129, 120, 121, 122, 123, 124, 125, 126, 133, 134, 135, 136, 137, 138, 139, 140, 141, 142, 143, 130, 131, 132, 144, 145, 146] (by decide +kernel) (by decide +kernel)
set_option maxRecDepth 20000 in
theorem gX4_loss_X4_mappingOf : GoodIn wsX4_loss (wsV RX4 125 RX4 yX4_mappingOf wsX4_mappingOf) := goodIn_app (goodIn_of _ (by decide +kernel)) ggX4_loss_X4_mappingOf
theorem dX4_loss_0 : decode cX4_loss 0 = .ok (.aload_n 0, 1) := by decide +kernel
theorem dX4_loss_1 : decode cX4_loss 1 = .ok (.aload_n 0, 1) := by decide +kernel
theorem dX4_loss_2 : decode cX4_loss 2 = .ok (.iload_n 1, 1) := by decide +kernel
theorem dX4_loss_3 : decode cX4_loss 3 = .ok (.invokevirtual 71, 3) := by decide +kernel
theorem dX4_loss_6 : decode cX4_loss 6 = .ok (.invokevirtual 125, 3) := by decide +kernel
theorem dX4_loss_9 : decode cX4_loss 9 = .ok (.getfield 145, 3) := by decide +kernel
theorem dX4_loss_12 : decode cX4_loss 12 = .ok (.ireturn, 1) := by decide +kernel
set_option maxRecDepth 20000 in
theorem ggX4_lossWith_X4_folderAt : GoodIn wsX4_lossWith wsX4_folderAt := goodIn_ca (goodIn_r _ [7, 8, 9, 10, 11, 12, 13, 14, 15, 16, 17, 18, 19, 20, 21, 22, 23, 24, 25, 26, 27, 28, 29, 30, 31, 32, 33, 34, 119, 120, 121, 129, 130, 131] (by decide +kernel) (by decide +kernel)) (goodIn_sub (fun _ h => List.mem_cons_of_mem _ (List.mem_append_right _ h)) (by decide +kernel))
set_option maxRecDepth 20000 in
theorem gX4_lossWith_X4_folderAt : GoodIn wsX4_lossWith (wsV RX4 71 RX4 yX4_folderAt wsX4_folderAt) := goodIn_app (goodIn_of _ (by decide +kernel)) ggX4_lossWith_X4_folderAt
set_option maxRecDepth 20000 in
theorem ggX4_lossWith_X4_refuseNoGroup : GoodIn wsX4_lossWith wsX4_refuseNoGroup := goodIn_ca (goodIn_r _ [37, 8, 9] (by decide +kernel) (by decide +kernel)) (goodIn_sub (fun _ h => List.mem_cons_of_mem _ (List.mem_append_right _ h)) (by decide +kernel))
set_option maxRecDepth 20000 in
theorem gX4_lossWith_X4_refuseNoGroup : GoodIn wsX4_lossWith (va_wsS RX4 39 yX4_refuseNoGroup wsX4_refuseNoGroup) := goodIn_app (goodIn_of _ (by decide +kernel)) ggX4_lossWith_X4_refuseNoGroup
set_option maxRecDepth 20000 in
theorem ggX4_lossWith_X4_findHeld : GoodIn wsX4_lossWith wsX4_findHeld := goodIn_r _ [41, 1, 42, 43, 44, 45, 6, 46, 47, 48, 49, 50, 51, 12, 13, 14, 15, 16, 17, 18, 19, 20, 21, 22, 23, 24, 25, 26, 27, 28, 29, 30, 31, 32, 33, 34, 52, 53, 54, 55, 56, 57, 58, 59, 60, 61, 62, 63, 64, 65, 66, 67, 68, 69, 70, 71, 72, 73, 74, 75, 76, 77, 78, 79, 119, 120, 121, 122, 123, 124, 125, 126, 127, 128, 132, 133, 134, 135, 136, 137, 138, 139, 140, 141, 142, 129, 130, 131, 143, 144, 145] (by decide +kernel) (by decide +kernel)
set_option maxRecDepth 20000 in
theorem gX4_lossWith_X4_findHeld : GoodIn wsX4_lossWith (wsV RX4 148 RX4 yX4_findHeld wsX4_findHeld) := goodIn_app (goodIn_of _ (by decide +kernel)) ggX4_lossWith_X4_findHeld
set_option maxRecDepth 20000 in
theorem ggX4_lossWith_X4_mapWith : GoodIn wsX4_lossWith wsX4_mapWith := goodIn_r _ [83, 63, 1, 47, 64, 65, 66, 67, 68, 69, 84, 85, 86, 87, 88, 89, 90, 91, 92, 93, 94, 95, 96, 97, 98, 99, 100, 101, 102, 103, 71, 6, 72, 104, 105, 106, 107, 108, 109, 110, 111, 112, 113, 114, 115, 116, 117, 118, 119, 120, 121, 132, 133, 134, 135, 136, 137, 138, 143, 144, 145, 122, 123, 124, 125, 126, 127, 128] (by decide +kernel) (by decide +kernel)
set_option maxRecDepth 20000 in
theorem gX4_lossWith_X4_mapWith : GoodIn wsX4_lossWith (wsV RX4 152 RX4 yX4_mapWith wsX4_mapWith) := goodIn_app (goodIn_of _ (by decide +kernel)) ggX4_lossWith_X4_mapWith
theorem dX4_lossWith_0 : decode cX4_lossWith 0 = .ok (.aload_n 0, 1) := by decide +kernel
theorem dX4_lossWith_1 : decode cX4_lossWith 1 = .ok (.iload_n 1, 1) := by decide +kernel
theorem dX4_lossWith_2 : decode cX4_lossWith 2 = .ok (.invokevirtual 71, 3) := by decide +kernel
theorem dX4_lossWith_5 : decode cX4_lossWith 5 = .ok (.astore_n 3, 1) := by decide +kernel
theorem dX4_lossWith_6 : decode cX4_lossWith 6 = .ok (.iload_n 2, 1) := by decide +kernel
theorem dX4_lossWith_7 : decode cX4_lossWith 7 = .ok (.iconst (-1), 1) := by decide +kernel
theorem dX4_lossWith_8 : decode cX4_lossWith 8 = .ok (.if_icmp .eq 7, 3) := by decide +kernel
theorem dX4_lossWith_11 : decode cX4_lossWith 11 = .ok (.iload_n 2, 1) := by decide +kernel
theorem dX4_lossWith_12 : decode cX4_lossWith 12 = .ok (.invokestatic 39, 3) := by decide +kernel
theorem dX4_lossWith_15 : decode cX4_lossWith 15 = .ok (.aload_n 0, 1) := by decide +kernel
theorem dX4_lossWith_16 : decode cX4_lossWith 16 = .ok (.aload_n 3, 1) := by decide +kernel
theorem dX4_lossWith_17 : decode cX4_lossWith 17 = .ok (.invokevirtual 148, 3) := by decide +kernel
theorem dX4_lossWith_20 : decode cX4_lossWith 20 = .ok (.aload_n 0, 1) := by decide +kernel
theorem dX4_lossWith_21 : decode cX4_lossWith 21 = .ok (.aload_n 3, 1) := by decide +kernel
theorem dX4_lossWith_22 : decode cX4_lossWith 22 = .ok (.iload_n 2, 1) := by decide +kernel
theorem dX4_lossWith_23 : decode cX4_lossWith 23 = .ok (.invokevirtual 152, 3) := by decide +kernel
theorem dX4_lossWith_26 : decode cX4_lossWith 26 = .ok (.aload_n 0, 1) := by decide +kernel
theorem dX4_lossWith_27 : decode cX4_lossWith 27 = .ok (.getfield 26, 3) := by decide +kernel
theorem dX4_lossWith_30 : decode cX4_lossWith 30 = .ok (.getfield 145, 3) := by decide +kernel
theorem dX4_lossWith_33 : decode cX4_lossWith 33 = .ok (.ireturn, 1) := by decide +kernel
set_option maxRecDepth 20000 in
theorem ggX4_pass_Jx4a65c_size_8abf5 : GoodIn wsX4_pass wsJx4a65c_size_8abf5 := goodIn_r _ [8, 9, 139, 140, 141] (by decide +kernel) (by decide +kernel)
set_option maxRecDepth 20000 in
theorem gX4_pass_Jx4a65c_size_8abf5 : GoodIn wsX4_pass (wsV RX4 75 RJx4a65c yJx4a65c_size_8abf5 wsJx4a65c_size_8abf5) := goodIn_app (goodIn_of _ (by decide +kernel)) ggX4_pass_Jx4a65c_size_8abf5
set_option maxRecDepth 20000 in
theorem ggX4_pass_Jx4a65c_get_915e3 : GoodIn wsX4_pass wsJx4a65c_get_915e3 := goodIn_r _ [13, 9, 14, 15, 16, 17, 18, 19, 20, 21, 22, 23, 24, 7, 25, 26, 139, 140, 141] (by decide +kernel) (by decide +kernel)
set_option maxRecDepth 20000 in
theorem gX4_pass_Jx4a65c_get_915e3 : GoodIn wsX4_pass (wsV RX4 155 RJx4a65c yJx4a65c_get_915e3 wsJx4a65c_get_915e3) := goodIn_app (goodIn_of _ (by decide +kernel)) ggX4_pass_Jx4a65c_get_915e3
set_option maxRecDepth 20000 in
theorem ggX4_pass_X4_mappingOf : GoodIn wsX4_pass wsX4_mappingOf := goodIn_r _ [31, 32, 33, 34, 35, 36, 30, 37, 38, 39, 40, 41, 42, 43, 44, 45, 46, 47, 4, 5, 6, 7, 8, 9, 10, 11, 12, 13, 14, 15, 16, 17, 18, 19, 20, 21, 22, 23, 24, 25, 26, 48, 49, 50, 51, 52, 53, 54, 55, 56, 57, 58, 59, 60, 61, 62, 63, 64, 65, 66, 67, 68, 69, 70, 71, 72, 73, 74, 75, 76, 77, 78, 79, 80, 81, 82, 83, 84, 85, 86, 87, 88, 89, 90, 91, 92, 93, 94, 95, 96, 97, 98, 99, 100, 101, 102, 103, 104, 105, 106, 107, 108, 109, 110, 111, 112, 113, 114, 129, 130, 131, 132, 133, 134, 135, 136, 137, 138, 142, 143, 144, 145, 146, 147, 148, 149, 150, 151, 152, 139, 140, 141, 153, 154, 155] (by decide +kernel) (by decide +kernel)
set_option maxRecDepth 20000 in
theorem gX4_pass_X4_mappingOf : GoodIn wsX4_pass (wsV RX4 125 RX4 yX4_mappingOf wsX4_mappingOf) := goodIn_app (goodIn_of _ (by decide +kernel)) ggX4_pass_X4_mappingOf
set_option maxRecDepth 20000 in
theorem ggX4_pass_X1_keep : GoodIn wsX4_pass wsX1_keep := goodIn_r _ [118, 119, 120, 121, 122, 123, 124, 125, 126, 127, 72, 128, 142, 143, 144, 145, 146, 147, 148] (by decide +kernel) (by decide +kernel)
set_option maxRecDepth 20000 in
theorem gX4_pass_X1_keep : GoodIn wsX4_pass (wsV RX4 158 RX1 yX1_keep wsX1_keep) := goodIn_app (goodIn_of _ (by decide +kernel)) ggX4_pass_X1_keep
theorem dX4_pass_0 : decode cX4_pass 0 = .ok (.iconst 0, 1) := by decide +kernel
theorem dX4_pass_1 : decode cX4_pass 1 = .ok (.istore_n 1, 1) := by decide +kernel
theorem dX4_pass_2 : decode cX4_pass 2 = .ok (.iconst 0, 1) := by decide +kernel
theorem dX4_pass_3 : decode cX4_pass 3 = .ok (.istore_n 2, 1) := by decide +kernel
theorem dX4_pass_4 : decode cX4_pass 4 = .ok (.iload_n 2, 1) := by decide +kernel
theorem dX4_pass_5 : decode cX4_pass 5 = .ok (.aload_n 0, 1) := by decide +kernel
theorem dX4_pass_6 : decode cX4_pass 6 = .ok (.getfield 19, 3) := by decide +kernel
theorem dX4_pass_9 : decode cX4_pass 9 = .ok (.invokevirtual 75, 3) := by decide +kernel
theorem dX4_pass_12 : decode cX4_pass 12 = .ok (.if_icmp .ge 39, 3) := by decide +kernel
theorem dX4_pass_15 : decode cX4_pass 15 = .ok (.aload_n 0, 1) := by decide +kernel
theorem dX4_pass_16 : decode cX4_pass 16 = .ok (.getfield 19, 3) := by decide +kernel
theorem dX4_pass_19 : decode cX4_pass 19 = .ok (.iload_n 2, 1) := by decide +kernel
theorem dX4_pass_20 : decode cX4_pass 20 = .ok (.invokevirtual 155, 3) := by decide +kernel
theorem dX4_pass_23 : decode cX4_pass 23 = .ok (.checkcast 30, 3) := by decide +kernel
theorem dX4_pass_26 : decode cX4_pass 26 = .ok (.astore_n 3, 1) := by decide +kernel
theorem dX4_pass_27 : decode cX4_pass 27 = .ok (.aload_n 3, 1) := by decide +kernel
theorem dX4_pass_28 : decode cX4_pass 28 = .ok (.aload_n 0, 1) := by decide +kernel
theorem dX4_pass_29 : decode cX4_pass 29 = .ok (.aload_n 3, 1) := by decide +kernel
theorem dX4_pass_30 : decode cX4_pass 30 = .ok (.invokevirtual 125, 3) := by decide +kernel
theorem dX4_pass_33 : decode cX4_pass 33 = .ok (.getfield 141, 3) := by decide +kernel
theorem dX4_pass_36 : decode cX4_pass 36 = .ok (.invokevirtual 158, 3) := by decide +kernel
theorem dX4_pass_39 : decode cX4_pass 39 = .ok (.ifCond .eq 6, 3) := by decide +kernel
theorem dX4_pass_42 : decode cX4_pass 42 = .ok (.iinc 1 1, 3) := by decide +kernel
theorem dX4_pass_45 : decode cX4_pass 45 = .ok (.iinc 2 1, 3) := by decide +kernel
theorem dX4_pass_48 : decode cX4_pass 48 = .ok (.goto (-44), 3) := by decide +kernel
theorem dX4_pass_51 : decode cX4_pass 51 = .ok (.iload_n 1, 1) := by decide +kernel
theorem dX4_pass_52 : decode cX4_pass 52 = .ok (.ireturn, 1) := by decide +kernel
set_option maxRecDepth 20000 in
theorem ggX4_isFresh_X4_folderAt : GoodIn wsX4_isFresh wsX4_folderAt := goodIn_ca (goodIn_r _ [6, 7, 8, 9, 10, 11, 12, 13, 14, 15, 16, 17, 18, 19, 20, 21, 22, 23, 24, 25, 26, 27, 28, 29, 30, 31, 32, 33, 134, 135, 136, 137, 138, 139] (by decide +kernel) (by decide +kernel)) (goodIn_sub (fun _ h => List.mem_cons_of_mem _ (List.mem_append_right _ h)) (by decide +kernel))
set_option maxRecDepth 20000 in
theorem gX4_isFresh_X4_folderAt : GoodIn wsX4_isFresh (wsV RX4 71 RX4 yX4_folderAt wsX4_folderAt) := goodIn_app (goodIn_of _ (by decide +kernel)) ggX4_isFresh_X4_folderAt
set_option maxRecDepth 20000 in
theorem ggX4_isFresh_X4_mappingOf : GoodIn wsX4_isFresh wsX4_mappingOf := goodIn_r _ [37, 38, 39, 40, 41, 42, 5, 43, 44, 45, 46, 47, 48, 49, 50, 51, 52, 53, 11, 12, 13, 14, 15, 16, 17, 18, 19, 20, 21, 22, 23, 24, 25, 26, 27, 28, 29, 30, 31, 32, 33, 54, 55, 56, 57, 58, 59, 60, 61, 62, 63, 64, 65, 66, 67, 68, 69, 70, 71, 72, 73, 74, 75, 76, 77, 78, 79, 80, 81, 82, 83, 84, 85, 86, 87, 88, 89, 90, 91, 92, 93, 94, 95, 96, 97, 98, 99, 100, 101, 102, 103, 104, 105, 106, 107, 108, 109, 110, 111, 112, 113, 114, 115, 116, 117, 118, 119, 120, 134, 135, 136, 127, 128, 129, 130, 131, 132, 133, 140, 141, 142, 143, 144, 145, 146, 147, 148, 149, 150, 137, 138, 139, 151, 152, 153] (by decide +kernel) (by decide +kernel)
set_option maxRecDepth 20000 in
theorem gX4_isFresh_X4_mappingOf : GoodIn wsX4_isFresh (wsV RX4 125 RX4 yX4_mappingOf wsX4_mappingOf) := goodIn_app (goodIn_of _ (by decide +kernel)) ggX4_isFresh_X4_mappingOf
set_option maxRecDepth 20000 in
theorem ggX4_isFresh_X1_keeps : GoodIn wsX4_isFresh wsX1_keeps := goodIn_r _ [124, 125, 126, 140, 141, 142, 143, 144, 145, 146] (by decide +kernel) (by decide +kernel)
set_option maxRecDepth 20000 in
theorem gX4_isFresh_X1_keeps : GoodIn wsX4_isFresh (wsV RX4 162 RX1 yX1_keeps wsX1_keeps) := goodIn_app (goodIn_of _ (by decide +kernel)) ggX4_isFresh_X1_keeps
theorem dX4_isFresh_0 : decode cX4_isFresh 0 = .ok (.aload_n 0, 1) := by decide +kernel
theorem dX4_isFresh_1 : decode cX4_isFresh 1 = .ok (.iload_n 1, 1) := by decide +kernel
theorem dX4_isFresh_2 : decode cX4_isFresh 2 = .ok (.invokevirtual 71, 3) := by decide +kernel
theorem dX4_isFresh_5 : decode cX4_isFresh 5 = .ok (.astore_n 2, 1) := by decide +kernel
theorem dX4_isFresh_6 : decode cX4_isFresh 6 = .ok (.aload_n 2, 1) := by decide +kernel
theorem dX4_isFresh_7 : decode cX4_isFresh 7 = .ok (.aload_n 0, 1) := by decide +kernel
theorem dX4_isFresh_8 : decode cX4_isFresh 8 = .ok (.aload_n 2, 1) := by decide +kernel
theorem dX4_isFresh_9 : decode cX4_isFresh 9 = .ok (.invokevirtual 125, 3) := by decide +kernel
theorem dX4_isFresh_12 : decode cX4_isFresh 12 = .ok (.getfield 141, 3) := by decide +kernel
theorem dX4_isFresh_15 : decode cX4_isFresh 15 = .ok (.invokevirtual 162, 3) := by decide +kernel
theorem dX4_isFresh_18 : decode cX4_isFresh 18 = .ok (.ireturn, 1) := by decide +kernel
set_option maxRecDepth 20000 in
theorem ggX4_turn_X4_folderAt : GoodIn wsX4_turn wsX4_folderAt := goodIn_ca (goodIn_r _ [9, 10, 11, 12, 13, 14, 15, 16, 17, 18, 19, 20, 21, 22, 23, 24, 25, 26, 27, 28, 29, 30, 31, 32, 33, 34, 35, 36, 44, 45, 46, 47, 48, 49] (by decide +kernel) (by decide +kernel)) (goodIn_sub (fun _ h => List.mem_cons_of_mem _ (List.mem_append_right _ h)) (by decide +kernel))
set_option maxRecDepth 20000 in
theorem gX4_turn_X4_folderAt : GoodIn wsX4_turn (wsV RX4 71 RX4 yX4_folderAt wsX4_folderAt) := goodIn_app (goodIn_of _ (by decide +kernel)) ggX4_turn_X4_folderAt
theorem dX4_turn_0 : decode cX4_turn 0 = .ok (.aload_n 0, 1) := by decide +kernel
theorem dX4_turn_1 : decode cX4_turn 1 = .ok (.iload_n 1, 1) := by decide +kernel
theorem dX4_turn_2 : decode cX4_turn 2 = .ok (.invokevirtual 71, 3) := by decide +kernel
theorem dX4_turn_5 : decode cX4_turn 5 = .ok (.astore_n 2, 1) := by decide +kernel
theorem dX4_turn_6 : decode cX4_turn 6 = .ok (.aload_n 2, 1) := by decide +kernel
theorem dX4_turn_7 : decode cX4_turn 7 = .ok (.getfield 165, 3) := by decide +kernel
theorem dX4_turn_10 : decode cX4_turn 10 = .ok (.ifCond .ne 13, 3) := by decide +kernel
theorem dX4_turn_13 : decode cX4_turn 13 = .ok (.new 58, 3) := by decide +kernel
theorem dX4_turn_16 : decode cX4_turn 16 = .ok (.dup, 1) := by decide +kernel
theorem dX4_turn_17 : decode cX4_turn 17 = .ok (.ldc 168, 2) := by decide +kernel
theorem dX4_turn_19 : decode cX4_turn 19 = .ok (.invokespecial 62, 3) := by decide +kernel
theorem dX4_turn_22 : decode cX4_turn 22 = .ok (.athrow, 1) := by decide +kernel
theorem dX4_turn_23 : decode cX4_turn 23 = .ok (.aload_n 2, 1) := by decide +kernel
theorem dX4_turn_24 : decode cX4_turn 24 = .ok (.aload_n 2, 1) := by decide +kernel
theorem dX4_turn_25 : decode cX4_turn 25 = .ok (.getfield 170, 3) := by decide +kernel
theorem dX4_turn_28 : decode cX4_turn 28 = .ok (.ifCond .ne 7, 3) := by decide +kernel
theorem dX4_turn_31 : decode cX4_turn 31 = .ok (.iconst 1, 1) := by decide +kernel
theorem dX4_turn_32 : decode cX4_turn 32 = .ok (.goto 4, 3) := by decide +kernel
theorem dX4_turn_35 : decode cX4_turn 35 = .ok (.iconst 0, 1) := by decide +kernel
theorem dX4_turn_36 : decode cX4_turn 36 = .ok (.putfield 170, 3) := by decide +kernel
theorem dX4_turn_39 : decode cX4_turn 39 = .ok (.aload_n 2, 1) := by decide +kernel
theorem dX4_turn_40 : decode cX4_turn 40 = .ok (.getfield 170, 3) := by decide +kernel
theorem dX4_turn_43 : decode cX4_turn 43 = .ok (.ireturn, 1) := by decide +kernel
set_option maxRecDepth 20000 in
theorem ggX4_rightsNow_X4_refuseNoPerson : GoodIn wsX4_rightsNow wsX4_refuseNoPerson := goodIn_ca (goodIn_r _ [4, 5, 6] (by decide +kernel) (by decide +kernel)) (goodIn_sub (fun _ h => List.mem_cons_of_mem _ (List.mem_append_right _ h)) (by decide +kernel))
set_option maxRecDepth 20000 in
theorem gX4_rightsNow_X4_refuseNoPerson : GoodIn wsX4_rightsNow (va_wsS RX4 43 yX4_refuseNoPerson wsX4_refuseNoPerson) := goodIn_app (goodIn_of _ (by decide +kernel)) ggX4_rightsNow_X4_refuseNoPerson
set_option maxRecDepth 20000 in
theorem ggX4_rightsNow_X4_folderAt : GoodIn wsX4_rightsNow wsX4_folderAt := goodIn_ca (goodIn_r _ [10, 5, 6, 11, 12, 13, 14, 15, 16, 17, 18, 19, 20, 21, 22, 23, 24, 25, 26, 27, 28, 29, 30, 31, 32, 33, 34, 35, 79, 80, 81, 82, 83, 84] (by decide +kernel) (by decide +kernel)) (goodIn_sub (fun _ h => List.mem_cons_of_mem _ (List.mem_append_right _ h)) (by decide +kernel))
set_option maxRecDepth 20000 in
theorem gX4_rightsNow_X4_folderAt : GoodIn wsX4_rightsNow (wsV RX4 71 RX4 yX4_folderAt wsX4_folderAt) := goodIn_app (goodIn_of _ (by decide +kernel)) ggX4_rightsNow_X4_folderAt
set_option maxRecDepth 20000 in
theorem ggX4_rightsNow_X4_currentRights : GoodIn wsX4_rightsNow wsX4_currentRights := goodIn_r _ [39, 40, 41, 42, 43, 44, 3, 45, 46, 47, 48, 49, 50, 13, 14, 15, 16, 17, 18, 19, 20, 21, 22, 23, 24, 25, 26, 27, 28, 29, 30, 31, 32, 33, 34, 35, 51, 52, 53, 54, 55, 56, 57, 58, 59, 60, 61, 62, 63, 64, 65, 66, 67, 68, 69, 70, 71, 72, 73, 74, 75, 76, 77, 78, 85, 86, 87, 88, 89, 90, 91, 92, 93, 94, 95, 82, 83, 84, 79, 80, 81, 96, 97, 98] (by decide +kernel) (by decide +kernel)
set_option maxRecDepth 20000 in
theorem gX4_rightsNow_X4_currentRights : GoodIn wsX4_rightsNow (wsV RX4 173 RX4 yX4_currentRights wsX4_currentRights) := goodIn_app (goodIn_of _ (by decide +kernel)) ggX4_rightsNow_X4_currentRights
theorem dX4_rightsNow_0 : decode cX4_rightsNow 0 = .ok (.iload_n 1, 1) := by decide +kernel
theorem dX4_rightsNow_1 : decode cX4_rightsNow 1 = .ok (.invokestatic 43, 3) := by decide +kernel
theorem dX4_rightsNow_4 : decode cX4_rightsNow 4 = .ok (.aload_n 0, 1) := by decide +kernel
theorem dX4_rightsNow_5 : decode cX4_rightsNow 5 = .ok (.iload_n 1, 1) := by decide +kernel
theorem dX4_rightsNow_6 : decode cX4_rightsNow 6 = .ok (.aload_n 0, 1) := by decide +kernel
theorem dX4_rightsNow_7 : decode cX4_rightsNow 7 = .ok (.iload_n 2, 1) := by decide +kernel
theorem dX4_rightsNow_8 : decode cX4_rightsNow 8 = .ok (.invokevirtual 71, 3) := by decide +kernel
theorem dX4_rightsNow_11 : decode cX4_rightsNow 11 = .ok (.invokevirtual 173, 3) := by decide +kernel
theorem dX4_rightsNow_14 : decode cX4_rightsNow 14 = .ok (.ireturn, 1) := by decide +kernel
set_option maxRecDepth 20000 in
theorem ggX4_gainers_X4_folderAt : GoodIn wsX4_gainers wsX4_folderAt := goodIn_ca (goodIn_r _ [5, 6, 7, 8, 9, 10, 11, 12, 13, 14, 15, 16, 17, 18, 19, 20, 21, 22, 23, 24, 25, 26, 27, 28, 29, 30, 31, 32, 76, 77, 78, 79, 80, 81] (by decide +kernel) (by decide +kernel)) (goodIn_sub (fun _ h => List.mem_cons_of_mem _ (List.mem_append_right _ h)) (by decide +kernel))
set_option maxRecDepth 20000 in
theorem gX4_gainers_X4_folderAt : GoodIn wsX4_gainers (wsV RX4 71 RX4 yX4_folderAt wsX4_folderAt) := goodIn_app (goodIn_of _ (by decide +kernel)) ggX4_gainers_X4_folderAt
set_option maxRecDepth 20000 in
theorem ggX4_gainers_X4_currentRights : GoodIn wsX4_gainers wsX4_currentRights := goodIn_r _ [36, 37, 38, 39, 40, 41, 4, 42, 43, 44, 45, 46, 47, 10, 11, 12, 13, 14, 15, 16, 17, 18, 19, 20, 21, 22, 23, 24, 25, 26, 27, 28, 29, 30, 31, 32, 48, 49, 50, 51, 52, 53, 54, 55, 56, 57, 58, 59, 60, 61, 62, 63, 64, 65, 66, 67, 68, 69, 70, 71, 72, 73, 74, 75, 82, 83, 84, 85, 86, 87, 88, 89, 90, 91, 92, 79, 80, 81, 76, 77, 78, 93, 94, 95] (by decide +kernel) (by decide +kernel)
set_option maxRecDepth 20000 in
theorem gX4_gainers_X4_currentRights : GoodIn wsX4_gainers (wsV RX4 173 RX4 yX4_currentRights wsX4_currentRights) := goodIn_app (goodIn_of _ (by decide +kernel)) ggX4_gainers_X4_currentRights
set_option maxRecDepth 20000 in
theorem ggX4_gainers_X4_rightsByEntries : GoodIn wsX4_gainers wsX4_rightsByEntries := goodIn_r _ [42, 43, 44, 45, 46, 47, 10, 11, 12, 13, 14, 15, 16, 17, 18, 19, 20, 21, 22, 23, 24, 25, 26, 27, 28, 29, 30, 31, 32, 48, 49, 50, 51, 52, 53, 54, 55, 56, 4, 57, 58, 59, 60, 61, 62, 63, 64, 65, 66, 67, 68, 69, 70, 71, 72, 73, 74, 75, 82, 83, 84, 85, 86, 87, 88, 89, 90, 91, 92, 79, 80, 81, 76, 77, 78, 93, 94, 95] (by decide +kernel) (by decide +kernel)
set_option maxRecDepth 20000 in
theorem gX4_gainers_X4_rightsByEntries : GoodIn wsX4_gainers (wsV RX4 118 RX4 yX4_rightsByEntries wsX4_rightsByEntries) := goodIn_app (goodIn_of _ (by decide +kernel)) ggX4_gainers_X4_rightsByEntries
theorem dX4_gainers_0 : decode cX4_gainers 0 = .ok (.aload_n 0, 1) := by decide +kernel
theorem dX4_gainers_1 : decode cX4_gainers 1 = .ok (.iload_n 1, 1) := by decide +kernel
theorem dX4_gainers_2 : decode cX4_gainers 2 = .ok (.invokevirtual 71, 3) := by decide +kernel
theorem dX4_gainers_5 : decode cX4_gainers 5 = .ok (.astore_n 2, 1) := by decide +kernel
theorem dX4_gainers_6 : decode cX4_gainers 6 = .ok (.iconst 0, 1) := by decide +kernel
theorem dX4_gainers_7 : decode cX4_gainers 7 = .ok (.istore_n 3, 1) := by decide +kernel
theorem dX4_gainers_8 : decode cX4_gainers 8 = .ok (.iconst 0, 1) := by decide +kernel
theorem dX4_gainers_9 : decode cX4_gainers 9 = .ok (.istore 4, 2) := by decide +kernel
theorem dX4_gainers_11 : decode cX4_gainers 11 = .ok (.iload 4, 2) := by decide +kernel
theorem dX4_gainers_13 : decode cX4_gainers 13 = .ok (.bipush 8, 2) := by decide +kernel
theorem dX4_gainers_15 : decode cX4_gainers 15 = .ok (.if_icmp .ge 36, 3) := by decide +kernel
theorem dX4_gainers_18 : decode cX4_gainers 18 = .ok (.aload_n 0, 1) := by decide +kernel
theorem dX4_gainers_19 : decode cX4_gainers 19 = .ok (.iload 4, 2) := by decide +kernel
theorem dX4_gainers_21 : decode cX4_gainers 21 = .ok (.aload_n 2, 1) := by decide +kernel
theorem dX4_gainers_22 : decode cX4_gainers 22 = .ok (.invokevirtual 173, 3) := by decide +kernel
theorem dX4_gainers_25 : decode cX4_gainers 25 = .ok (.aload_n 0, 1) := by decide +kernel
theorem dX4_gainers_26 : decode cX4_gainers 26 = .ok (.iload 4, 2) := by decide +kernel
theorem dX4_gainers_28 : decode cX4_gainers 28 = .ok (.aload_n 2, 1) := by decide +kernel
theorem dX4_gainers_29 : decode cX4_gainers 29 = .ok (.invokevirtual 118, 3) := by decide +kernel
theorem dX4_gainers_32 : decode cX4_gainers 32 = .ok (.iconst (-1), 1) := by decide +kernel
theorem dX4_gainers_33 : decode cX4_gainers 33 = .ok (.ixor, 1) := by decide +kernel
theorem dX4_gainers_34 : decode cX4_gainers 34 = .ok (.iand, 1) := by decide +kernel
theorem dX4_gainers_35 : decode cX4_gainers 35 = .ok (.ifCond .eq 10, 3) := by decide +kernel
theorem dX4_gainers_38 : decode cX4_gainers 38 = .ok (.iload_n 3, 1) := by decide +kernel
theorem dX4_gainers_39 : decode cX4_gainers 39 = .ok (.iconst 1, 1) := by decide +kernel
theorem dX4_gainers_40 : decode cX4_gainers 40 = .ok (.iload 4, 2) := by decide +kernel
theorem dX4_gainers_42 : decode cX4_gainers 42 = .ok (.ishl, 1) := by decide +kernel
theorem dX4_gainers_43 : decode cX4_gainers 43 = .ok (.ior, 1) := by decide +kernel
theorem dX4_gainers_44 : decode cX4_gainers 44 = .ok (.istore_n 3, 1) := by decide +kernel
theorem dX4_gainers_45 : decode cX4_gainers 45 = .ok (.iinc 4 1, 3) := by decide +kernel
theorem dX4_gainers_48 : decode cX4_gainers 48 = .ok (.goto (-37), 3) := by decide +kernel
theorem dX4_gainers_51 : decode cX4_gainers 51 = .ok (.iload_n 3, 1) := by decide +kernel
theorem dX4_gainers_52 : decode cX4_gainers 52 = .ok (.ireturn, 1) := by decide +kernel
theorem dX4_refuseNoPerson_0 : decode cX4_refuseNoPerson 0 = .ok (.iload_n 0, 1) := by decide +kernel
theorem dX4_refuseNoPerson_1 : decode cX4_refuseNoPerson 1 = .ok (.ifCond .lt 9, 3) := by decide +kernel
theorem dX4_refuseNoPerson_4 : decode cX4_refuseNoPerson 4 = .ok (.iload_n 0, 1) := by decide +kernel
theorem dX4_refuseNoPerson_5 : decode cX4_refuseNoPerson 5 = .ok (.bipush 8, 2) := by decide +kernel
theorem dX4_refuseNoPerson_7 : decode cX4_refuseNoPerson 7 = .ok (.if_icmp .lt 13, 3) := by decide +kernel
theorem dX4_refuseNoPerson_10 : decode cX4_refuseNoPerson 10 = .ok (.new 89, 3) := by decide +kernel
theorem dX4_refuseNoPerson_13 : decode cX4_refuseNoPerson 13 = .ok (.dup, 1) := by decide +kernel
theorem dX4_refuseNoPerson_14 : decode cX4_refuseNoPerson 14 = .ok (.ldc 176, 2) := by decide +kernel
theorem dX4_refuseNoPerson_16 : decode cX4_refuseNoPerson 16 = .ok (.invokespecial 93, 3) := by decide +kernel
theorem dX4_refuseNoPerson_19 : decode cX4_refuseNoPerson 19 = .ok (.athrow, 1) := by decide +kernel
theorem dX4_refuseNoPerson_20 : decode cX4_refuseNoPerson 20 = .ok (.return_, 1) := by decide +kernel
theorem dX4_refuseNoGroup_0 : decode cX4_refuseNoGroup 0 = .ok (.iload_n 0, 1) := by decide +kernel
theorem dX4_refuseNoGroup_1 : decode cX4_refuseNoGroup 1 = .ok (.ifCond .lt 9, 3) := by decide +kernel
theorem dX4_refuseNoGroup_4 : decode cX4_refuseNoGroup 4 = .ok (.iload_n 0, 1) := by decide +kernel
theorem dX4_refuseNoGroup_5 : decode cX4_refuseNoGroup 5 = .ok (.bipush 6, 2) := by decide +kernel
theorem dX4_refuseNoGroup_7 : decode cX4_refuseNoGroup 7 = .ok (.if_icmp .lt 13, 3) := by decide +kernel
theorem dX4_refuseNoGroup_10 : decode cX4_refuseNoGroup 10 = .ok (.new 89, 3) := by decide +kernel
theorem dX4_refuseNoGroup_13 : decode cX4_refuseNoGroup 13 = .ok (.dup, 1) := by decide +kernel
theorem dX4_refuseNoGroup_14 : decode cX4_refuseNoGroup 14 = .ok (.ldc 178, 2) := by decide +kernel
theorem dX4_refuseNoGroup_16 : decode cX4_refuseNoGroup 16 = .ok (.invokespecial 93, 3) := by decide +kernel
theorem dX4_refuseNoGroup_19 : decode cX4_refuseNoGroup 19 = .ok (.athrow, 1) := by decide +kernel
theorem dX4_refuseNoGroup_20 : decode cX4_refuseNoGroup 20 = .ok (.return_, 1) := by decide +kernel
set_option maxRecDepth 20000 in
theorem ggX4_folderAt_Jx4a65c_size_8abf5 : GoodIn wsX4_folderAt wsJx4a65c_size_8abf5 := goodIn_r _ [9, 10, 31, 32, 33] (by decide +kernel) (by decide +kernel)
set_option maxRecDepth 20000 in
theorem gX4_folderAt_Jx4a65c_size_8abf5 : GoodIn wsX4_folderAt (wsV RX4 75 RJx4a65c yJx4a65c_size_8abf5 wsJx4a65c_size_8abf5) := goodIn_app (goodIn_of _ (by decide +kernel)) ggX4_folderAt_Jx4a65c_size_8abf5
set_option maxRecDepth 20000 in
theorem ggX4_folderAt_Jx4a65c_get_915e3 : GoodIn wsX4_folderAt wsJx4a65c_get_915e3 := goodIn_r _ [14, 10, 15, 16, 17, 18, 19, 20, 21, 22, 23, 24, 25, 8, 26, 27, 31, 32, 33] (by decide +kernel) (by decide +kernel)
set_option maxRecDepth 20000 in
theorem gX4_folderAt_Jx4a65c_get_915e3 : GoodIn wsX4_folderAt (wsV RX4 155 RJx4a65c yJx4a65c_get_915e3 wsJx4a65c_get_915e3) := goodIn_app (goodIn_of _ (by decide +kernel)) ggX4_folderAt_Jx4a65c_get_915e3
theorem dX4_folderAt_0 : decode cX4_folderAt 0 = .ok (.iload_n 1, 1) := by decide +kernel
theorem dX4_folderAt_1 : decode cX4_folderAt 1 = .ok (.ifCond .lt 14, 3) := by decide +kernel
theorem dX4_folderAt_4 : decode cX4_folderAt 4 = .ok (.iload_n 1, 1) := by decide +kernel
theorem dX4_folderAt_5 : decode cX4_folderAt 5 = .ok (.aload_n 0, 1) := by decide +kernel
theorem dX4_folderAt_6 : decode cX4_folderAt 6 = .ok (.getfield 19, 3) := by decide +kernel
theorem dX4_folderAt_9 : decode cX4_folderAt 9 = .ok (.invokevirtual 75, 3) := by decide +kernel
theorem dX4_folderAt_12 : decode cX4_folderAt 12 = .ok (.if_icmp .lt 13, 3) := by decide +kernel
theorem dX4_folderAt_15 : decode cX4_folderAt 15 = .ok (.new 89, 3) := by decide +kernel
theorem dX4_folderAt_18 : decode cX4_folderAt 18 = .ok (.dup, 1) := by decide +kernel
theorem dX4_folderAt_19 : decode cX4_folderAt 19 = .ok (.ldc 180, 2) := by decide +kernel
theorem dX4_folderAt_21 : decode cX4_folderAt 21 = .ok (.invokespecial 93, 3) := by decide +kernel
theorem dX4_folderAt_24 : decode cX4_folderAt 24 = .ok (.athrow, 1) := by decide +kernel
theorem dX4_folderAt_25 : decode cX4_folderAt 25 = .ok (.aload_n 0, 1) := by decide +kernel
theorem dX4_folderAt_26 : decode cX4_folderAt 26 = .ok (.getfield 19, 3) := by decide +kernel
theorem dX4_folderAt_29 : decode cX4_folderAt 29 = .ok (.iload_n 1, 1) := by decide +kernel
theorem dX4_folderAt_30 : decode cX4_folderAt 30 = .ok (.invokevirtual 155, 3) := by decide +kernel
theorem dX4_folderAt_33 : decode cX4_folderAt 33 = .ok (.checkcast 30, 3) := by decide +kernel
theorem dX4_folderAt_36 : decode cX4_folderAt 36 = .ok (.areturn, 1) := by decide +kernel
theorem dX4_contains_0 : decode cX4_contains 0 = .ok (.iload_n 0, 1) := by decide +kernel
theorem dX4_contains_1 : decode cX4_contains 1 = .ok (.iload_n 1, 1) := by decide +kernel
theorem dX4_contains_2 : decode cX4_contains 2 = .ok (.ishr, 1) := by decide +kernel
theorem dX4_contains_3 : decode cX4_contains 3 = .ok (.iconst 1, 1) := by decide +kernel
theorem dX4_contains_4 : decode cX4_contains 4 = .ok (.iand, 1) := by decide +kernel
theorem dX4_contains_5 : decode cX4_contains 5 = .ok (.ifCond .eq 7, 3) := by decide +kernel
theorem dX4_contains_8 : decode cX4_contains 8 = .ok (.iconst 1, 1) := by decide +kernel
theorem dX4_contains_9 : decode cX4_contains 9 = .ok (.goto 4, 3) := by decide +kernel
theorem dX4_contains_12 : decode cX4_contains 12 = .ok (.iconst 0, 1) := by decide +kernel
theorem dX4_contains_13 : decode cX4_contains 13 = .ok (.ireturn, 1) := by decide +kernel
set_option maxRecDepth 20000 in
theorem ggX4_isFor_X2_everyoneIn : GoodIn wsX4_isFor wsX2_everyoneIn := goodIn_r _ [7, 8, 20, 21, 22] (by decide +kernel) (by decide +kernel)
set_option maxRecDepth 20000 in
theorem gX4_isFor_X2_everyoneIn : GoodIn wsX4_isFor (wsV RX4 68 RX2 yX2_everyoneIn wsX2_everyoneIn) := goodIn_app (goodIn_of _ (by decide +kernel)) ggX4_isFor_X2_everyoneIn
set_option maxRecDepth 20000 in
theorem ggX4_isFor_X4_contains : GoodIn wsX4_isFor wsX4_contains := goodIn_r _ [12] (by decide +kernel) (by decide +kernel)
set_option maxRecDepth 20000 in
theorem gX4_isFor_X4_contains : GoodIn wsX4_isFor (va_wsS RX4 54 yX4_contains wsX4_contains) := goodIn_app (goodIn_of _ (by decide +kernel)) ggX4_isFor_X4_contains
theorem dX4_isFor_0 : decode cX4_isFor 0 = .ok (.aload_n 1, 1) := by decide +kernel
theorem dX4_isFor_1 : decode cX4_isFor 1 = .ok (.getfield 182, 3) := by decide +kernel
theorem dX4_isFor_4 : decode cX4_isFor 4 = .ok (.bipush 8, 2) := by decide +kernel
theorem dX4_isFor_6 : decode cX4_isFor 6 = .ok (.if_icmp .ge 17, 3) := by decide +kernel
theorem dX4_isFor_9 : decode cX4_isFor 9 = .ok (.aload_n 1, 1) := by decide +kernel
theorem dX4_isFor_10 : decode cX4_isFor 10 = .ok (.getfield 182, 3) := by decide +kernel
theorem dX4_isFor_13 : decode cX4_isFor 13 = .ok (.iload_n 2, 1) := by decide +kernel
theorem dX4_isFor_14 : decode cX4_isFor 14 = .ok (.if_icmp .ne 7, 3) := by decide +kernel
theorem dX4_isFor_17 : decode cX4_isFor 17 = .ok (.iconst 1, 1) := by decide +kernel
theorem dX4_isFor_18 : decode cX4_isFor 18 = .ok (.goto 4, 3) := by decide +kernel
theorem dX4_isFor_21 : decode cX4_isFor 21 = .ok (.iconst 0, 1) := by decide +kernel
theorem dX4_isFor_22 : decode cX4_isFor 22 = .ok (.ireturn, 1) := by decide +kernel
theorem dX4_isFor_23 : decode cX4_isFor 23 = .ok (.aload_n 0, 1) := by decide +kernel
theorem dX4_isFor_24 : decode cX4_isFor 24 = .ok (.getfield 12, 3) := by decide +kernel
theorem dX4_isFor_27 : decode cX4_isFor 27 = .ok (.aload_n 1, 1) := by decide +kernel
theorem dX4_isFor_28 : decode cX4_isFor 28 = .ok (.getfield 182, 3) := by decide +kernel
theorem dX4_isFor_31 : decode cX4_isFor 31 = .ok (.bipush 8, 2) := by decide +kernel
theorem dX4_isFor_33 : decode cX4_isFor 33 = .ok (.isub, 1) := by decide +kernel
theorem dX4_isFor_34 : decode cX4_isFor 34 = .ok (.invokevirtual 68, 3) := by decide +kernel
theorem dX4_isFor_37 : decode cX4_isFor 37 = .ok (.iload_n 2, 1) := by decide +kernel
theorem dX4_isFor_38 : decode cX4_isFor 38 = .ok (.invokestatic 54, 3) := by decide +kernel
theorem dX4_isFor_41 : decode cX4_isFor 41 = .ok (.ireturn, 1) := by decide +kernel
set_option maxRecDepth 20000 in
theorem ggX4_rightsByEntries_Jx4a65c_size_8abf5 : GoodIn wsX4_rightsByEntries wsJx4a65c_size_8abf5 := goodIn_r _ [10, 11, 69, 70, 71] (by decide +kernel) (by decide +kernel)
set_option maxRecDepth 20000 in
theorem gX4_rightsByEntries_Jx4a65c_size_8abf5 : GoodIn wsX4_rightsByEntries (wsV RX4 75 RJx4a65c yJx4a65c_size_8abf5 wsJx4a65c_size_8abf5) := goodIn_app (goodIn_of _ (by decide +kernel)) ggX4_rightsByEntries_Jx4a65c_size_8abf5
set_option maxRecDepth 20000 in
theorem ggX4_rightsByEntries_Jx4a65c_get_915e3 : GoodIn wsX4_rightsByEntries wsJx4a65c_get_915e3 := goodIn_r _ [15, 11, 16, 17, 18, 19, 20, 21, 22, 23, 24, 25, 26, 9, 27, 28, 69, 70, 71] (by decide +kernel) (by decide +kernel)
set_option maxRecDepth 20000 in
theorem gX4_rightsByEntries_Jx4a65c_get_915e3 : GoodIn wsX4_rightsByEntries (wsV RX4 155 RJx4a65c yJx4a65c_get_915e3 wsJx4a65c_get_915e3) := goodIn_app (goodIn_of _ (by decide +kernel)) ggX4_rightsByEntries_Jx4a65c_get_915e3
set_option maxRecDepth 20000 in
theorem ggX4_rightsByEntries_X0_counts : GoodIn wsX4_rightsByEntries wsX0_counts := goodIn_r _ [33, 34, 65, 66, 67, 68] (by decide +kernel) (by decide +kernel)
set_option maxRecDepth 20000 in
theorem gX4_rightsByEntries_X0_counts : GoodIn wsX4_rightsByEntries (wsV RX4 185 RX0 yX0_counts wsX0_counts) := goodIn_app (goodIn_of _ (by decide +kernel)) ggX4_rightsByEntries_X0_counts
set_option maxRecDepth 20000 in
theorem ggX4_rightsByEntries_X4_isFor : GoodIn wsX4_rightsByEntries wsX4_isFor := goodIn_r _ [39, 40, 41, 42, 43, 44, 45, 46, 47, 48, 49, 38, 50, 65, 66, 67, 68, 72, 73, 74, 75, 76, 77] (by decide +kernel) (by decide +kernel)
set_option maxRecDepth 20000 in
theorem gX4_rightsByEntries_X4_isFor : GoodIn wsX4_rightsByEntries (wsV RX4 189 RX4 yX4_isFor wsX4_isFor) := goodIn_app (goodIn_of _ (by decide +kernel)) ggX4_rightsByEntries_X4_isFor
set_option maxRecDepth 20000 in
theorem ggX4_rightsByEntries_X1_inheritsFrom : GoodIn wsX4_rightsByEntries wsX1_inheritsFrom := goodIn_r _ [55, 56, 57, 58, 59, 60, 61, 62, 63, 64] (by decide +kernel) (by decide +kernel)
set_option maxRecDepth 20000 in
theorem gX4_rightsByEntries_X1_inheritsFrom : GoodIn wsX4_rightsByEntries (wsV RX4 196 RX1 yX1_inheritsFrom wsX1_inheritsFrom) := goodIn_app (goodIn_of _ (by decide +kernel)) ggX4_rightsByEntries_X1_inheritsFrom
theorem dX4_rightsByEntries_0 : decode cX4_rightsByEntries 0 = .ok (.iload_n 1, 1) := by decide +kernel
theorem dX4_rightsByEntries_1 : decode cX4_rightsByEntries 1 = .ok (.aload_n 2, 1) := by decide +kernel
theorem dX4_rightsByEntries_2 : decode cX4_rightsByEntries 2 = .ok (.getfield 81, 3) := by decide +kernel
theorem dX4_rightsByEntries_5 : decode cX4_rightsByEntries 5 = .ok (.if_icmp .ne 6, 3) := by decide +kernel
theorem dX4_rightsByEntries_8 : decode cX4_rightsByEntries 8 = .ok (.bipush 7, 2) := by decide +kernel
theorem dX4_rightsByEntries_10 : decode cX4_rightsByEntries 10 = .ok (.ireturn, 1) := by decide +kernel
theorem dX4_rightsByEntries_11 : decode cX4_rightsByEntries 11 = .ok (.bipush 7, 2) := by decide +kernel
theorem dX4_rightsByEntries_13 : decode cX4_rightsByEntries 13 = .ok (.istore_n 3, 1) := by decide +kernel
theorem dX4_rightsByEntries_14 : decode cX4_rightsByEntries 14 = .ok (.iconst 0, 1) := by decide +kernel
theorem dX4_rightsByEntries_15 : decode cX4_rightsByEntries 15 = .ok (.istore 4, 2) := by decide +kernel
theorem dX4_rightsByEntries_17 : decode cX4_rightsByEntries 17 = .ok (.aload_n 2, 1) := by decide +kernel
theorem dX4_rightsByEntries_18 : decode cX4_rightsByEntries 18 = .ok (.astore 5, 2) := by decide +kernel
theorem dX4_rightsByEntries_20 : decode cX4_rightsByEntries 20 = .ok (.aload 5, 2) := by decide +kernel
theorem dX4_rightsByEntries_22 : decode cX4_rightsByEntries 22 = .ok (.ifnull 109, 3) := by decide +kernel
theorem dX4_rightsByEntries_25 : decode cX4_rightsByEntries 25 = .ok (.iconst 0, 1) := by decide +kernel
theorem dX4_rightsByEntries_26 : decode cX4_rightsByEntries 26 = .ok (.istore 6, 2) := by decide +kernel
theorem dX4_rightsByEntries_28 : decode cX4_rightsByEntries 28 = .ok (.iload 6, 2) := by decide +kernel
theorem dX4_rightsByEntries_30 : decode cX4_rightsByEntries 30 = .ok (.aload 5, 2) := by decide +kernel
theorem dX4_rightsByEntries_32 : decode cX4_rightsByEntries 32 = .ok (.getfield 99, 3) := by decide +kernel
theorem dX4_rightsByEntries_35 : decode cX4_rightsByEntries 35 = .ok (.invokevirtual 75, 3) := by decide +kernel
theorem dX4_rightsByEntries_38 : decode cX4_rightsByEntries 38 = .ok (.if_icmp .ge 83, 3) := by decide +kernel
theorem dX4_rightsByEntries_41 : decode cX4_rightsByEntries 41 = .ok (.aload 5, 2) := by decide +kernel
theorem dX4_rightsByEntries_43 : decode cX4_rightsByEntries 43 = .ok (.getfield 99, 3) := by decide +kernel
theorem dX4_rightsByEntries_46 : decode cX4_rightsByEntries 46 = .ok (.iload 6, 2) := by decide +kernel
theorem dX4_rightsByEntries_48 : decode cX4_rightsByEntries 48 = .ok (.invokevirtual 155, 3) := by decide +kernel
theorem dX4_rightsByEntries_51 : decode cX4_rightsByEntries 51 = .ok (.checkcast 104, 3) := by decide +kernel
theorem dX4_rightsByEntries_54 : decode cX4_rightsByEntries 54 = .ok (.astore 7, 2) := by decide +kernel
theorem dX4_rightsByEntries_56 : decode cX4_rightsByEntries 56 = .ok (.aload 7, 2) := by decide +kernel
theorem dX4_rightsByEntries_58 : decode cX4_rightsByEntries 58 = .ok (.aload 5, 2) := by decide +kernel
theorem dX4_rightsByEntries_60 : decode cX4_rightsByEntries 60 = .ok (.aload_n 2, 1) := by decide +kernel
theorem dX4_rightsByEntries_61 : decode cX4_rightsByEntries 61 = .ok (.if_acmp .ne 7, 3) := by decide +kernel
theorem dX4_rightsByEntries_64 : decode cX4_rightsByEntries 64 = .ok (.iconst 1, 1) := by decide +kernel
theorem dX4_rightsByEntries_65 : decode cX4_rightsByEntries 65 = .ok (.goto 4, 3) := by decide +kernel
theorem dX4_rightsByEntries_68 : decode cX4_rightsByEntries 68 = .ok (.iconst 0, 1) := by decide +kernel
theorem dX4_rightsByEntries_69 : decode cX4_rightsByEntries 69 = .ok (.invokevirtual 185, 3) := by decide +kernel
theorem dX4_rightsByEntries_72 : decode cX4_rightsByEntries 72 = .ok (.ifCond .eq 43, 3) := by decide +kernel
theorem dX4_rightsByEntries_75 : decode cX4_rightsByEntries 75 = .ok (.aload_n 0, 1) := by decide +kernel
theorem dX4_rightsByEntries_76 : decode cX4_rightsByEntries 76 = .ok (.aload 7, 2) := by decide +kernel
theorem dX4_rightsByEntries_78 : decode cX4_rightsByEntries 78 = .ok (.iload_n 1, 1) := by decide +kernel
theorem dX4_rightsByEntries_79 : decode cX4_rightsByEntries 79 = .ok (.invokevirtual 189, 3) := by decide +kernel
theorem dX4_rightsByEntries_82 : decode cX4_rightsByEntries 82 = .ok (.ifCond .eq 33, 3) := by decide +kernel
theorem dX4_rightsByEntries_85 : decode cX4_rightsByEntries 85 = .ok (.aload 7, 2) := by decide +kernel
theorem dX4_rightsByEntries_87 : decode cX4_rightsByEntries 87 = .ok (.getfield 193, 3) := by decide +kernel
theorem dX4_rightsByEntries_90 : decode cX4_rightsByEntries 90 = .ok (.ifCond .eq 15, 3) := by decide +kernel
theorem dX4_rightsByEntries_93 : decode cX4_rightsByEntries 93 = .ok (.iload 4, 2) := by decide +kernel
theorem dX4_rightsByEntries_95 : decode cX4_rightsByEntries 95 = .ok (.aload 7, 2) := by decide +kernel
theorem dX4_rightsByEntries_97 : decode cX4_rightsByEntries 97 = .ok (.getfield 115, 3) := by decide +kernel
theorem dX4_rightsByEntries_100 : decode cX4_rightsByEntries 100 = .ok (.iload_n 3, 1) := by decide +kernel
theorem dX4_rightsByEntries_101 : decode cX4_rightsByEntries 101 = .ok (.iand, 1) := by decide +kernel
theorem dX4_rightsByEntries_102 : decode cX4_rightsByEntries 102 = .ok (.ior, 1) := by decide +kernel
theorem dX4_rightsByEntries_103 : decode cX4_rightsByEntries 103 = .ok (.istore 4, 2) := by decide +kernel
theorem dX4_rightsByEntries_105 : decode cX4_rightsByEntries 105 = .ok (.iload_n 3, 1) := by decide +kernel
theorem dX4_rightsByEntries_106 : decode cX4_rightsByEntries 106 = .ok (.aload 7, 2) := by decide +kernel
theorem dX4_rightsByEntries_108 : decode cX4_rightsByEntries 108 = .ok (.getfield 115, 3) := by decide +kernel
theorem dX4_rightsByEntries_111 : decode cX4_rightsByEntries 111 = .ok (.iconst (-1), 1) := by decide +kernel
theorem dX4_rightsByEntries_112 : decode cX4_rightsByEntries 112 = .ok (.ixor, 1) := by decide +kernel
theorem dX4_rightsByEntries_113 : decode cX4_rightsByEntries 113 = .ok (.iand, 1) := by decide +kernel
theorem dX4_rightsByEntries_114 : decode cX4_rightsByEntries 114 = .ok (.istore_n 3, 1) := by decide +kernel
theorem dX4_rightsByEntries_115 : decode cX4_rightsByEntries 115 = .ok (.iinc 6 1, 3) := by decide +kernel
theorem dX4_rightsByEntries_118 : decode cX4_rightsByEntries 118 = .ok (.goto (-90), 3) := by decide +kernel
theorem dX4_rightsByEntries_121 : decode cX4_rightsByEntries 121 = .ok (.aload 5, 2) := by decide +kernel
theorem dX4_rightsByEntries_123 : decode cX4_rightsByEntries 123 = .ok (.invokevirtual 196, 3) := by decide +kernel
theorem dX4_rightsByEntries_126 : decode cX4_rightsByEntries 126 = .ok (.astore 5, 2) := by decide +kernel
theorem dX4_rightsByEntries_128 : decode cX4_rightsByEntries 128 = .ok (.goto (-108), 3) := by decide +kernel
theorem dX4_rightsByEntries_131 : decode cX4_rightsByEntries 131 = .ok (.iload 4, 2) := by decide +kernel
theorem dX4_rightsByEntries_133 : decode cX4_rightsByEntries 133 = .ok (.ireturn, 1) := by decide +kernel
set_option maxRecDepth 20000 in
theorem ggX4_rightsByOverruling_X1_levelsInherited : GoodIn wsX4_rightsByOverruling wsX1_levelsInherited := goodIn_r _ [10, 11, 12, 13, 9, 14, 15, 16, 66, 67, 68, 69, 70, 71, 72] (by decide +kernel) (by decide +kernel)
set_option maxRecDepth 20000 in
theorem gX4_rightsByOverruling_X1_levelsInherited : GoodIn wsX4_rightsByOverruling (wsV RX4 200 RX1 yX1_levelsInherited wsX1_levelsInherited) := goodIn_app (goodIn_of _ (by decide +kernel)) ggX4_rightsByOverruling_X1_levelsInherited
set_option maxRecDepth 20000 in
theorem ggX4_rightsByOverruling_X1_above : GoodIn wsX4_rightsByOverruling wsX1_above := goodIn_r _ [20, 16, 66, 67, 68, 69, 70, 71, 72] (by decide +kernel) (by decide +kernel)
set_option maxRecDepth 20000 in
theorem gX4_rightsByOverruling_X1_above : GoodIn wsX4_rightsByOverruling (wsV RX4 203 RX1 yX1_above wsX1_above) := goodIn_app (goodIn_of _ (by decide +kernel)) ggX4_rightsByOverruling_X1_above
set_option maxRecDepth 20000 in
theorem ggX4_rightsByOverruling_Jx4a65c_size_8abf5 : GoodIn wsX4_rightsByOverruling wsJx4a65c_size_8abf5 := goodIn_r _ [25, 26, 77, 78, 79] (by decide +kernel) (by decide +kernel)
set_option maxRecDepth 20000 in
theorem gX4_rightsByOverruling_Jx4a65c_size_8abf5 : GoodIn wsX4_rightsByOverruling (wsV RX4 75 RJx4a65c yJx4a65c_size_8abf5 wsJx4a65c_size_8abf5) := goodIn_app (goodIn_of _ (by decide +kernel)) ggX4_rightsByOverruling_Jx4a65c_size_8abf5
set_option maxRecDepth 20000 in
theorem ggX4_rightsByOverruling_Jx4a65c_get_915e3 : GoodIn wsX4_rightsByOverruling wsJx4a65c_get_915e3 := goodIn_r _ [30, 26, 31, 32, 33, 34, 35, 36, 37, 38, 39, 40, 41, 24, 42, 43, 77, 78, 79] (by decide +kernel) (by decide +kernel)
set_option maxRecDepth 20000 in
theorem gX4_rightsByOverruling_Jx4a65c_get_915e3 : GoodIn wsX4_rightsByOverruling (wsV RX4 155 RJx4a65c yJx4a65c_get_915e3 wsJx4a65c_get_915e3) := goodIn_app (goodIn_of _ (by decide +kernel)) ggX4_rightsByOverruling_Jx4a65c_get_915e3
set_option maxRecDepth 20000 in
theorem ggX4_rightsByOverruling_X0_counts : GoodIn wsX4_rightsByOverruling wsX0_counts := goodIn_r _ [48, 49, 73, 74, 75, 76] (by decide +kernel) (by decide +kernel)
set_option maxRecDepth 20000 in
theorem gX4_rightsByOverruling_X0_counts : GoodIn wsX4_rightsByOverruling (wsV RX4 185 RX0 yX0_counts wsX0_counts) := goodIn_app (goodIn_of _ (by decide +kernel)) ggX4_rightsByOverruling_X0_counts
set_option maxRecDepth 20000 in
theorem ggX4_rightsByOverruling_X4_isFor : GoodIn wsX4_rightsByOverruling wsX4_isFor := goodIn_r _ [54, 55, 56, 57, 58, 59, 60, 61, 62, 63, 64, 53, 65, 73, 74, 75, 76, 80, 81, 82, 83, 84, 85] (by decide +kernel) (by decide +kernel)
set_option maxRecDepth 20000 in
theorem gX4_rightsByOverruling_X4_isFor : GoodIn wsX4_rightsByOverruling (wsV RX4 189 RX4 yX4_isFor wsX4_isFor) := goodIn_app (goodIn_of _ (by decide +kernel)) ggX4_rightsByOverruling_X4_isFor
theorem dX4_rightsByOverruling_0 : decode cX4_rightsByOverruling 0 = .ok (.iload_n 1, 1) := by decide +kernel
theorem dX4_rightsByOverruling_1 : decode cX4_rightsByOverruling 1 = .ok (.aload_n 2, 1) := by decide +kernel
theorem dX4_rightsByOverruling_2 : decode cX4_rightsByOverruling 2 = .ok (.getfield 81, 3) := by decide +kernel
theorem dX4_rightsByOverruling_5 : decode cX4_rightsByOverruling 5 = .ok (.if_icmp .ne 6, 3) := by decide +kernel
theorem dX4_rightsByOverruling_8 : decode cX4_rightsByOverruling 8 = .ok (.bipush 7, 2) := by decide +kernel
theorem dX4_rightsByOverruling_10 : decode cX4_rightsByOverruling 10 = .ok (.ireturn, 1) := by decide +kernel
theorem dX4_rightsByOverruling_11 : decode cX4_rightsByOverruling 11 = .ok (.iconst 0, 1) := by decide +kernel
theorem dX4_rightsByOverruling_12 : decode cX4_rightsByOverruling 12 = .ok (.istore_n 3, 1) := by decide +kernel
theorem dX4_rightsByOverruling_13 : decode cX4_rightsByOverruling 13 = .ok (.aload_n 2, 1) := by decide +kernel
theorem dX4_rightsByOverruling_14 : decode cX4_rightsByOverruling 14 = .ok (.invokevirtual 200, 3) := by decide +kernel
theorem dX4_rightsByOverruling_17 : decode cX4_rightsByOverruling 17 = .ok (.istore 4, 2) := by decide +kernel
theorem dX4_rightsByOverruling_19 : decode cX4_rightsByOverruling 19 = .ok (.iload 4, 2) := by decide +kernel
theorem dX4_rightsByOverruling_21 : decode cX4_rightsByOverruling 21 = .ok (.ifCond .lt 111, 3) := by decide +kernel
theorem dX4_rightsByOverruling_24 : decode cX4_rightsByOverruling 24 = .ok (.aload_n 2, 1) := by decide +kernel
theorem dX4_rightsByOverruling_25 : decode cX4_rightsByOverruling 25 = .ok (.iload 4, 2) := by decide +kernel
theorem dX4_rightsByOverruling_27 : decode cX4_rightsByOverruling 27 = .ok (.invokevirtual 203, 3) := by decide +kernel
theorem dX4_rightsByOverruling_30 : decode cX4_rightsByOverruling 30 = .ok (.astore 5, 2) := by decide +kernel
theorem dX4_rightsByOverruling_32 : decode cX4_rightsByOverruling 32 = .ok (.aload 5, 2) := by decide +kernel
theorem dX4_rightsByOverruling_34 : decode cX4_rightsByOverruling 34 = .ok (.getfield 99, 3) := by decide +kernel
theorem dX4_rightsByOverruling_37 : decode cX4_rightsByOverruling 37 = .ok (.invokevirtual 75, 3) := by decide +kernel
theorem dX4_rightsByOverruling_40 : decode cX4_rightsByOverruling 40 = .ok (.iconst 1, 1) := by decide +kernel
theorem dX4_rightsByOverruling_41 : decode cX4_rightsByOverruling 41 = .ok (.isub, 1) := by decide +kernel
theorem dX4_rightsByOverruling_42 : decode cX4_rightsByOverruling 42 = .ok (.istore 6, 2) := by decide +kernel
theorem dX4_rightsByOverruling_44 : decode cX4_rightsByOverruling 44 = .ok (.iload 6, 2) := by decide +kernel
theorem dX4_rightsByOverruling_46 : decode cX4_rightsByOverruling 46 = .ok (.ifCond .lt 80, 3) := by decide +kernel
theorem dX4_rightsByOverruling_49 : decode cX4_rightsByOverruling 49 = .ok (.aload 5, 2) := by decide +kernel
theorem dX4_rightsByOverruling_51 : decode cX4_rightsByOverruling 51 = .ok (.getfield 99, 3) := by decide +kernel
theorem dX4_rightsByOverruling_54 : decode cX4_rightsByOverruling 54 = .ok (.iload 6, 2) := by decide +kernel
theorem dX4_rightsByOverruling_56 : decode cX4_rightsByOverruling 56 = .ok (.invokevirtual 155, 3) := by decide +kernel
theorem dX4_rightsByOverruling_59 : decode cX4_rightsByOverruling 59 = .ok (.checkcast 104, 3) := by decide +kernel
theorem dX4_rightsByOverruling_62 : decode cX4_rightsByOverruling 62 = .ok (.astore 7, 2) := by decide +kernel
theorem dX4_rightsByOverruling_64 : decode cX4_rightsByOverruling 64 = .ok (.aload 7, 2) := by decide +kernel
theorem dX4_rightsByOverruling_66 : decode cX4_rightsByOverruling 66 = .ok (.iload 4, 2) := by decide +kernel
theorem dX4_rightsByOverruling_68 : decode cX4_rightsByOverruling 68 = .ok (.ifCond .ne 7, 3) := by decide +kernel
theorem dX4_rightsByOverruling_71 : decode cX4_rightsByOverruling 71 = .ok (.iconst 1, 1) := by decide +kernel
theorem dX4_rightsByOverruling_72 : decode cX4_rightsByOverruling 72 = .ok (.goto 4, 3) := by decide +kernel
theorem dX4_rightsByOverruling_75 : decode cX4_rightsByOverruling 75 = .ok (.iconst 0, 1) := by decide +kernel
theorem dX4_rightsByOverruling_76 : decode cX4_rightsByOverruling 76 = .ok (.invokevirtual 185, 3) := by decide +kernel
theorem dX4_rightsByOverruling_79 : decode cX4_rightsByOverruling 79 = .ok (.ifCond .eq 41, 3) := by decide +kernel
theorem dX4_rightsByOverruling_82 : decode cX4_rightsByOverruling 82 = .ok (.aload_n 0, 1) := by decide +kernel
theorem dX4_rightsByOverruling_83 : decode cX4_rightsByOverruling 83 = .ok (.aload 7, 2) := by decide +kernel
theorem dX4_rightsByOverruling_85 : decode cX4_rightsByOverruling 85 = .ok (.iload_n 1, 1) := by decide +kernel
theorem dX4_rightsByOverruling_86 : decode cX4_rightsByOverruling 86 = .ok (.invokevirtual 189, 3) := by decide +kernel
theorem dX4_rightsByOverruling_89 : decode cX4_rightsByOverruling 89 = .ok (.ifCond .eq 31, 3) := by decide +kernel
theorem dX4_rightsByOverruling_92 : decode cX4_rightsByOverruling 92 = .ok (.aload 7, 2) := by decide +kernel
theorem dX4_rightsByOverruling_94 : decode cX4_rightsByOverruling 94 = .ok (.getfield 193, 3) := by decide +kernel
theorem dX4_rightsByOverruling_97 : decode cX4_rightsByOverruling 97 = .ok (.ifCond .eq 13, 3) := by decide +kernel
theorem dX4_rightsByOverruling_100 : decode cX4_rightsByOverruling 100 = .ok (.iload_n 3, 1) := by decide +kernel
theorem dX4_rightsByOverruling_101 : decode cX4_rightsByOverruling 101 = .ok (.aload 7, 2) := by decide +kernel
theorem dX4_rightsByOverruling_103 : decode cX4_rightsByOverruling 103 = .ok (.getfield 115, 3) := by decide +kernel
theorem dX4_rightsByOverruling_106 : decode cX4_rightsByOverruling 106 = .ok (.ior, 1) := by decide +kernel
theorem dX4_rightsByOverruling_107 : decode cX4_rightsByOverruling 107 = .ok (.goto 12, 3) := by decide +kernel
theorem dX4_rightsByOverruling_110 : decode cX4_rightsByOverruling 110 = .ok (.iload_n 3, 1) := by decide +kernel
theorem dX4_rightsByOverruling_111 : decode cX4_rightsByOverruling 111 = .ok (.aload 7, 2) := by decide +kernel
theorem dX4_rightsByOverruling_113 : decode cX4_rightsByOverruling 113 = .ok (.getfield 115, 3) := by decide +kernel
theorem dX4_rightsByOverruling_116 : decode cX4_rightsByOverruling 116 = .ok (.iconst (-1), 1) := by decide +kernel
theorem dX4_rightsByOverruling_117 : decode cX4_rightsByOverruling 117 = .ok (.ixor, 1) := by decide +kernel
theorem dX4_rightsByOverruling_118 : decode cX4_rightsByOverruling 118 = .ok (.iand, 1) := by decide +kernel
theorem dX4_rightsByOverruling_119 : decode cX4_rightsByOverruling 119 = .ok (.istore_n 3, 1) := by decide +kernel
theorem dX4_rightsByOverruling_120 : decode cX4_rightsByOverruling 120 = .ok (.iinc 6 (-1), 3) := by decide +kernel
theorem dX4_rightsByOverruling_123 : decode cX4_rightsByOverruling 123 = .ok (.goto (-79), 3) := by decide +kernel
theorem dX4_rightsByOverruling_126 : decode cX4_rightsByOverruling 126 = .ok (.iinc 4 (-1), 3) := by decide +kernel
theorem dX4_rightsByOverruling_129 : decode cX4_rightsByOverruling 129 = .ok (.goto (-110), 3) := by decide +kernel
theorem dX4_rightsByOverruling_132 : decode cX4_rightsByOverruling 132 = .ok (.iload_n 3, 1) := by decide +kernel
theorem dX4_rightsByOverruling_133 : decode cX4_rightsByOverruling 133 = .ok (.ireturn, 1) := by decide +kernel
set_option maxRecDepth 20000 in
theorem ggX4_currentRights_X4_rightsByEntries : GoodIn wsX4_currentRights wsX4_rightsByEntries := goodIn_r _ [7, 8, 9, 10, 11, 12, 13, 14, 15, 16, 17, 18, 19, 20, 21, 22, 23, 24, 25, 26, 27, 28, 29, 30, 31, 32, 33, 34, 35, 36, 37, 38, 39, 40, 41, 42, 43, 44, 6, 45, 46, 47, 48, 49, 50, 51, 52, 53, 54, 55, 56, 57, 58, 59, 60, 61, 62, 63, 64, 65, 66, 67, 68, 69, 70, 71, 72, 73, 74, 75, 76, 77, 78, 79, 80, 81, 82, 83] (by decide +kernel) (by decide +kernel)
set_option maxRecDepth 20000 in
theorem gX4_currentRights_X4_rightsByEntries : GoodIn wsX4_currentRights (wsV RX4 118 RX4 yX4_rightsByEntries wsX4_rightsByEntries) := goodIn_app (goodIn_of _ (by decide +kernel)) ggX4_currentRights_X4_rightsByEntries
theorem dX4_currentRights_0 : decode cX4_currentRights 0 = .ok (.aload_n 2, 1) := by decide +kernel
theorem dX4_currentRights_1 : decode cX4_currentRights 1 = .ok (.getfield 170, 3) := by decide +kernel
theorem dX4_currentRights_4 : decode cX4_currentRights 4 = .ok (.ifCond .eq 12, 3) := by decide +kernel
theorem dX4_currentRights_7 : decode cX4_currentRights 7 = .ok (.aload_n 2, 1) := by decide +kernel
theorem dX4_currentRights_8 : decode cX4_currentRights 8 = .ok (.getfield 206, 3) := by decide +kernel
theorem dX4_currentRights_11 : decode cX4_currentRights 11 = .ok (.iload_n 1, 1) := by decide +kernel
theorem dX4_currentRights_12 : decode cX4_currentRights 12 = .ok (.iaload, 1) := by decide +kernel
theorem dX4_currentRights_13 : decode cX4_currentRights 13 = .ok (.goto 9, 3) := by decide +kernel
theorem dX4_currentRights_16 : decode cX4_currentRights 16 = .ok (.aload_n 0, 1) := by decide +kernel
theorem dX4_currentRights_17 : decode cX4_currentRights 17 = .ok (.iload_n 1, 1) := by decide +kernel
theorem dX4_currentRights_18 : decode cX4_currentRights 18 = .ok (.aload_n 2, 1) := by decide +kernel
theorem dX4_currentRights_19 : decode cX4_currentRights 19 = .ok (.invokevirtual 118, 3) := by decide +kernel
theorem dX4_currentRights_22 : decode cX4_currentRights 22 = .ok (.ireturn, 1) := by decide +kernel
set_option maxRecDepth 20000 in
theorem ggX4_findHeld_X4_rightsByEntries : GoodIn wsX4_findHeld wsX4_rightsByEntries := goodIn_r _ [7, 8, 9, 10, 11, 12, 13, 14, 15, 16, 17, 18, 19, 20, 21, 22, 23, 24, 25, 26, 27, 28, 29, 30, 31, 32, 33, 34, 35, 36, 37, 38, 39, 40, 41, 42, 43, 44, 6, 45, 46, 47, 48, 49, 50, 51, 52, 53, 54, 55, 56, 57, 58, 59, 60, 61, 62, 63, 74, 75, 76, 77, 78, 79, 80, 81, 82, 83, 84, 85, 86, 87, 64, 65, 66, 88, 89, 90] (by decide +kernel) (by decide +kernel)
set_option maxRecDepth 20000 in
theorem gX4_findHeld_X4_rightsByEntries : GoodIn wsX4_findHeld (wsV RX4 118 RX4 yX4_rightsByEntries wsX4_rightsByEntries) := goodIn_app (goodIn_of _ (by decide +kernel)) ggX4_findHeld_X4_rightsByEntries
end
section
theorem dX4_findHeld_0 : decode cX4_findHeld 0 = .ok (.iconst 0, 1) := by decide +kernel
theorem dX4_findHeld_1 : decode cX4_findHeld 1 = .ok (.istore_n 2, 1) := by decide +kernel
theorem dX4_findHeld_2 : decode cX4_findHeld 2 = .ok (.iload_n 2, 1) := by decide +kernel
theorem dX4_findHeld_3 : decode cX4_findHeld 3 = .ok (.bipush 8, 2) := by decide +kernel
theorem dX4_findHeld_5 : decode cX4_findHeld 5 = .ok (.if_icmp .ge 24, 3) := by decide +kernel
theorem dX4_findHeld_8 : decode cX4_findHeld 8 = .ok (.aload_n 0, 1) := by decide +kernel
theorem dX4_findHeld_9 : decode cX4_findHeld 9 = .ok (.getfield 26, 3) := by decide +kernel
theorem dX4_findHeld_12 : decode cX4_findHeld 12 = .ok (.getfield 209, 3) := by decide +kernel
theorem dX4_findHeld_15 : decode cX4_findHeld 15 = .ok (.iload_n 2, 1) := by decide +kernel
theorem dX4_findHeld_16 : decode cX4_findHeld 16 = .ok (.aload_n 0, 1) := by decide +kernel
theorem dX4_findHeld_17 : decode cX4_findHeld 17 = .ok (.iload_n 2, 1) := by decide +kernel
theorem dX4_findHeld_18 : decode cX4_findHeld 18 = .ok (.aload_n 1, 1) := by decide +kernel
theorem dX4_findHeld_19 : decode cX4_findHeld 19 = .ok (.invokevirtual 118, 3) := by decide +kernel
theorem dX4_findHeld_22 : decode cX4_findHeld 22 = .ok (.iastore, 1) := by decide +kernel
theorem dX4_findHeld_23 : decode cX4_findHeld 23 = .ok (.iinc 2 1, 3) := by decide +kernel
theorem dX4_findHeld_26 : decode cX4_findHeld 26 = .ok (.goto (-24), 3) := by decide +kernel
theorem dX4_findHeld_29 : decode cX4_findHeld 29 = .ok (.return_, 1) := by decide +kernel
set_option maxRecDepth 20000 in
theorem ggX4_mapWith_X2_everyoneIn : GoodIn wsX4_mapWith wsX2_everyoneIn := goodIn_r _ [8, 9, 58, 59, 60] (by decide +kernel) (by decide +kernel)
set_option maxRecDepth 20000 in
theorem gX4_mapWith_X2_everyoneIn : GoodIn wsX4_mapWith (wsV RX4 68 RX2 yX2_everyoneIn wsX2_everyoneIn) := goodIn_app (goodIn_of _ (by decide +kernel)) ggX4_mapWith_X2_everyoneIn
set_option maxRecDepth 20000 in
theorem ggX4_mapWith_X3_make : GoodIn wsX4_mapWith wsX3_make := goodIn_r _ [14, 15, 16, 17, 18, 19, 20, 13, 21, 22, 23, 24, 25, 26, 27, 28, 29, 30, 31, 32, 33, 34, 35, 36, 37, 38, 39, 40, 41, 42, 43, 44, 45, 46, 47, 61, 62, 63, 64, 65, 66, 67] (by decide +kernel) (by decide +kernel)
set_option maxRecDepth 20000 in
theorem gX4_mapWith_X3_make : GoodIn wsX4_mapWith (wsV RX4 212 RX3 yX3_make wsX3_make) := goodIn_app (goodIn_of _ (by decide +kernel)) ggX4_mapWith_X3_make
theorem dX4_mapWith_0 : decode cX4_mapWith 0 = .ok (.iload_n 2, 1) := by decide +kernel
theorem dX4_mapWith_1 : decode cX4_mapWith 1 = .ok (.iconst (-1), 1) := by decide +kernel
theorem dX4_mapWith_2 : decode cX4_mapWith 2 = .ok (.if_icmp .ne 7, 3) := by decide +kernel
theorem dX4_mapWith_5 : decode cX4_mapWith 5 = .ok (.iconst 0, 1) := by decide +kernel
theorem dX4_mapWith_6 : decode cX4_mapWith 6 = .ok (.goto 11, 3) := by decide +kernel
theorem dX4_mapWith_9 : decode cX4_mapWith 9 = .ok (.aload_n 0, 1) := by decide +kernel
theorem dX4_mapWith_10 : decode cX4_mapWith 10 = .ok (.getfield 12, 3) := by decide +kernel
theorem dX4_mapWith_13 : decode cX4_mapWith 13 = .ok (.iload_n 2, 1) := by decide +kernel
theorem dX4_mapWith_14 : decode cX4_mapWith 14 = .ok (.invokevirtual 68, 3) := by decide +kernel
theorem dX4_mapWith_17 : decode cX4_mapWith 17 = .ok (.istore_n 3, 1) := by decide +kernel
theorem dX4_mapWith_18 : decode cX4_mapWith 18 = .ok (.aload_n 0, 1) := by decide +kernel
theorem dX4_mapWith_19 : decode cX4_mapWith 19 = .ok (.getfield 26, 3) := by decide +kernel
theorem dX4_mapWith_22 : decode cX4_mapWith 22 = .ok (.aload_n 1, 1) := by decide +kernel
theorem dX4_mapWith_23 : decode cX4_mapWith 23 = .ok (.getfield 81, 3) := by decide +kernel
theorem dX4_mapWith_26 : decode cX4_mapWith 26 = .ok (.iload_n 2, 1) := by decide +kernel
theorem dX4_mapWith_27 : decode cX4_mapWith 27 = .ok (.iload_n 3, 1) := by decide +kernel
theorem dX4_mapWith_28 : decode cX4_mapWith 28 = .ok (.invokevirtual 212, 3) := by decide +kernel
theorem dX4_mapWith_31 : decode cX4_mapWith 31 = .ok (.return_, 1) := by decide +kernel
set_option maxRecDepth 20000 in
theorem ggX4_mappingOf_X4_findHeld : GoodIn wsX4_mappingOf wsX4_findHeld := goodIn_r _ [7, 1, 8, 9, 10, 11, 6, 12, 13, 14, 15, 16, 17, 18, 19, 20, 21, 22, 23, 24, 25, 26, 27, 28, 29, 30, 31, 32, 33, 34, 35, 36, 37, 38, 39, 40, 41, 42, 43, 44, 45, 46, 47, 48, 49, 50, 51, 52, 53, 54, 55, 56, 57, 58, 59, 60, 61, 62, 63, 64, 65, 66, 67, 68, 108, 109, 110, 111, 112, 113, 114, 115, 116, 117, 118, 119, 120, 121, 122, 123, 124, 125, 126, 127, 128, 129, 130, 131, 132, 133, 134] (by decide +kernel) (by decide +kernel)
set_option maxRecDepth 20000 in
theorem gX4_mappingOf_X4_findHeld : GoodIn wsX4_mappingOf (wsV RX4 148 RX4 yX4_findHeld wsX4_findHeld) := goodIn_app (goodIn_of _ (by decide +kernel)) ggX4_mappingOf_X4_findHeld
set_option maxRecDepth 20000 in
theorem ggX4_mappingOf_X4_mapWith : GoodIn wsX4_mappingOf wsX4_mapWith := goodIn_r _ [72, 52, 1, 13, 53, 54, 55, 56, 57, 58, 73, 74, 75, 76, 77, 78, 79, 80, 81, 82, 83, 84, 85, 86, 87, 88, 89, 90, 91, 92, 60, 6, 61, 93, 94, 95, 96, 97, 98, 99, 100, 101, 102, 103, 104, 105, 106, 107, 108, 109, 110, 118, 119, 120, 121, 122, 123, 124, 132, 133, 134, 111, 112, 113, 114, 115, 116, 117] (by decide +kernel) (by decide +kernel)
set_option maxRecDepth 20000 in
theorem gX4_mappingOf_X4_mapWith : GoodIn wsX4_mappingOf (wsV RX4 152 RX4 yX4_mapWith wsX4_mapWith) := goodIn_app (goodIn_of _ (by decide +kernel)) ggX4_mappingOf_X4_mapWith
theorem dX4_mappingOf_0 : decode cX4_mappingOf 0 = .ok (.aload_n 0, 1) := by decide +kernel
theorem dX4_mappingOf_1 : decode cX4_mappingOf 1 = .ok (.aload_n 1, 1) := by decide +kernel
theorem dX4_mappingOf_2 : decode cX4_mappingOf 2 = .ok (.invokevirtual 148, 3) := by decide +kernel
theorem dX4_mappingOf_5 : decode cX4_mappingOf 5 = .ok (.aload_n 0, 1) := by decide +kernel
theorem dX4_mappingOf_6 : decode cX4_mappingOf 6 = .ok (.aload_n 1, 1) := by decide +kernel
theorem dX4_mappingOf_7 : decode cX4_mappingOf 7 = .ok (.iconst (-1), 1) := by decide +kernel
theorem dX4_mappingOf_8 : decode cX4_mappingOf 8 = .ok (.invokevirtual 152, 3) := by decide +kernel
theorem dX4_mappingOf_11 : decode cX4_mappingOf 11 = .ok (.aload_n 0, 1) := by decide +kernel
theorem dX4_mappingOf_12 : decode cX4_mappingOf 12 = .ok (.getfield 26, 3) := by decide +kernel
theorem dX4_mappingOf_15 : decode cX4_mappingOf 15 = .ok (.getfield 145, 3) := by decide +kernel
theorem dX4_mappingOf_18 : decode cX4_mappingOf 18 = .ok (.istore_n 2, 1) := by decide +kernel
theorem dX4_mappingOf_19 : decode cX4_mappingOf 19 = .ok (.iconst (-1), 1) := by decide +kernel
theorem dX4_mappingOf_20 : decode cX4_mappingOf 20 = .ok (.istore_n 3, 1) := by decide +kernel
theorem dX4_mappingOf_21 : decode cX4_mappingOf 21 = .ok (.iconst 0, 1) := by decide +kernel
theorem dX4_mappingOf_22 : decode cX4_mappingOf 22 = .ok (.istore 4, 2) := by decide +kernel
theorem dX4_mappingOf_24 : decode cX4_mappingOf 24 = .ok (.iload 4, 2) := by decide +kernel
theorem dX4_mappingOf_26 : decode cX4_mappingOf 26 = .ok (.bipush 6, 2) := by decide +kernel
theorem dX4_mappingOf_28 : decode cX4_mappingOf 28 = .ok (.if_icmp .ge 38, 3) := by decide +kernel
theorem dX4_mappingOf_31 : decode cX4_mappingOf 31 = .ok (.aload_n 0, 1) := by decide +kernel
theorem dX4_mappingOf_32 : decode cX4_mappingOf 32 = .ok (.aload_n 1, 1) := by decide +kernel
theorem dX4_mappingOf_33 : decode cX4_mappingOf 33 = .ok (.iload 4, 2) := by decide +kernel
theorem dX4_mappingOf_35 : decode cX4_mappingOf 35 = .ok (.invokevirtual 152, 3) := by decide +kernel
theorem dX4_mappingOf_38 : decode cX4_mappingOf 38 = .ok (.aload_n 0, 1) := by decide +kernel
theorem dX4_mappingOf_39 : decode cX4_mappingOf 39 = .ok (.getfield 26, 3) := by decide +kernel
theorem dX4_mappingOf_42 : decode cX4_mappingOf 42 = .ok (.getfield 145, 3) := by decide +kernel
theorem dX4_mappingOf_45 : decode cX4_mappingOf 45 = .ok (.iload_n 2, 1) := by decide +kernel
theorem dX4_mappingOf_46 : decode cX4_mappingOf 46 = .ok (.if_icmp .ge 14, 3) := by decide +kernel
theorem dX4_mappingOf_49 : decode cX4_mappingOf 49 = .ok (.aload_n 0, 1) := by decide +kernel
theorem dX4_mappingOf_50 : decode cX4_mappingOf 50 = .ok (.getfield 26, 3) := by decide +kernel
theorem dX4_mappingOf_53 : decode cX4_mappingOf 53 = .ok (.getfield 145, 3) := by decide +kernel
theorem dX4_mappingOf_56 : decode cX4_mappingOf 56 = .ok (.istore_n 2, 1) := by decide +kernel
theorem dX4_mappingOf_57 : decode cX4_mappingOf 57 = .ok (.iload 4, 2) := by decide +kernel
theorem dX4_mappingOf_59 : decode cX4_mappingOf 59 = .ok (.istore_n 3, 1) := by decide +kernel
theorem dX4_mappingOf_60 : decode cX4_mappingOf 60 = .ok (.iinc 4 1, 3) := by decide +kernel
theorem dX4_mappingOf_63 : decode cX4_mappingOf 63 = .ok (.goto (-39), 3) := by decide +kernel
theorem dX4_mappingOf_66 : decode cX4_mappingOf 66 = .ok (.aload_n 0, 1) := by decide +kernel
theorem dX4_mappingOf_67 : decode cX4_mappingOf 67 = .ok (.aload_n 1, 1) := by decide +kernel
theorem dX4_mappingOf_68 : decode cX4_mappingOf 68 = .ok (.iload_n 3, 1) := by decide +kernel
theorem dX4_mappingOf_69 : decode cX4_mappingOf 69 = .ok (.invokevirtual 152, 3) := by decide +kernel
theorem dX4_mappingOf_72 : decode cX4_mappingOf 72 = .ok (.aload_n 0, 1) := by decide +kernel
theorem dX4_mappingOf_73 : decode cX4_mappingOf 73 = .ok (.getfield 26, 3) := by decide +kernel
theorem dX4_mappingOf_76 : decode cX4_mappingOf 76 = .ok (.areturn, 1) := by decide +kernel
theorem dX5_init_0 : decode cX5_init 0 = .ok (.aload_n 0, 1) := by decide +kernel
theorem dX5_init_1 : decode cX5_init 1 = .ok (.invokespecial 1, 3) := by decide +kernel
theorem dX5_init_4 : decode cX5_init 4 = .ok (.aload_n 0, 1) := by decide +kernel
theorem dX5_init_5 : decode cX5_init 5 = .ok (.bipush 6, 2) := by decide +kernel
theorem dX5_init_7 : decode cX5_init 7 = .ok (.newarray .int, 2) := by decide +kernel
theorem dX5_init_9 : decode cX5_init 9 = .ok (.putfield 7, 3) := by decide +kernel
theorem dX5_init_12 : decode cX5_init 12 = .ok (.aload_n 0, 1) := by decide +kernel
theorem dX5_init_13 : decode cX5_init 13 = .ok (.bipush 6, 2) := by decide +kernel
theorem dX5_init_15 : decode cX5_init 15 = .ok (.newarray .int, 2) := by decide +kernel
theorem dX5_init_17 : decode cX5_init 17 = .ok (.putfield 13, 3) := by decide +kernel
theorem dX5_init_20 : decode cX5_init 20 = .ok (.aload_n 0, 1) := by decide +kernel
theorem dX5_init_21 : decode cX5_init 21 = .ok (.bipush 20, 2) := by decide +kernel
theorem dX5_init_23 : decode cX5_init 23 = .ok (.newarray .int, 2) := by decide +kernel
theorem dX5_init_25 : decode cX5_init 25 = .ok (.putfield 16, 3) := by decide +kernel
theorem dX5_init_28 : decode cX5_init 28 = .ok (.aload_n 0, 1) := by decide +kernel
theorem dX5_init_29 : decode cX5_init 29 = .ok (.bipush 20, 2) := by decide +kernel
theorem dX5_init_31 : decode cX5_init 31 = .ok (.newarray .int, 2) := by decide +kernel
theorem dX5_init_33 : decode cX5_init 33 = .ok (.putfield 19, 3) := by decide +kernel
theorem dX5_init_36 : decode cX5_init 36 = .ok (.aload_n 0, 1) := by decide +kernel
theorem dX5_init_37 : decode cX5_init 37 = .ok (.bipush 20, 2) := by decide +kernel
theorem dX5_init_39 : decode cX5_init 39 = .ok (.newarray .boolean, 2) := by decide +kernel
theorem dX5_init_41 : decode cX5_init 41 = .ok (.putfield 22, 3) := by decide +kernel
theorem dX5_init_44 : decode cX5_init 44 = .ok (.aload_n 0, 1) := by decide +kernel
theorem dX5_init_45 : decode cX5_init 45 = .ok (.bipush 20, 2) := by decide +kernel
theorem dX5_init_47 : decode cX5_init 47 = .ok (.newarray .int, 2) := by decide +kernel
theorem dX5_init_49 : decode cX5_init 49 = .ok (.putfield 26, 3) := by decide +kernel
theorem dX5_init_52 : decode cX5_init 52 = .ok (.aload_n 0, 1) := by decide +kernel
theorem dX5_init_53 : decode cX5_init 53 = .ok (.iconst 1, 1) := by decide +kernel
theorem dX5_init_54 : decode cX5_init 54 = .ok (.putfield 29, 3) := by decide +kernel
theorem dX5_init_57 : decode cX5_init 57 = .ok (.aload_n 0, 1) := by decide +kernel
theorem dX5_init_58 : decode cX5_init 58 = .ok (.bipush 120, 2) := by decide +kernel
theorem dX5_init_60 : decode cX5_init 60 = .ok (.newarray .int, 2) := by decide +kernel
theorem dX5_init_62 : decode cX5_init 62 = .ok (.putfield 33, 3) := by decide +kernel
theorem dX5_init_65 : decode cX5_init 65 = .ok (.aload_n 0, 1) := by decide +kernel
theorem dX5_init_66 : decode cX5_init 66 = .ok (.bipush 120, 2) := by decide +kernel
theorem dX5_init_68 : decode cX5_init 68 = .ok (.newarray .boolean, 2) := by decide +kernel
theorem dX5_init_70 : decode cX5_init 70 = .ok (.putfield 36, 3) := by decide +kernel
theorem dX5_init_73 : decode cX5_init 73 = .ok (.aload_n 0, 1) := by decide +kernel
theorem dX5_init_74 : decode cX5_init 74 = .ok (.bipush 120, 2) := by decide +kernel
theorem dX5_init_76 : decode cX5_init 76 = .ok (.newarray .int, 2) := by decide +kernel
theorem dX5_init_78 : decode cX5_init 78 = .ok (.putfield 39, 3) := by decide +kernel
theorem dX5_init_81 : decode cX5_init 81 = .ok (.aload_n 0, 1) := by decide +kernel
theorem dX5_init_82 : decode cX5_init 82 = .ok (.bipush 120, 2) := by decide +kernel
theorem dX5_init_84 : decode cX5_init 84 = .ok (.newarray .int, 2) := by decide +kernel
theorem dX5_init_86 : decode cX5_init 86 = .ok (.putfield 42, 3) := by decide +kernel
theorem dX5_init_89 : decode cX5_init 89 = .ok (.aload_n 0, 1) := by decide +kernel
theorem dX5_init_90 : decode cX5_init 90 = .ok (.bipush 8, 2) := by decide +kernel
theorem dX5_init_92 : decode cX5_init 92 = .ok (.newarray .int, 2) := by decide +kernel
theorem dX5_init_94 : decode cX5_init 94 = .ok (.putfield 45, 3) := by decide +kernel
theorem dX5_init_97 : decode cX5_init 97 = .ok (.aload_n 0, 1) := by decide +kernel
theorem dX5_init_98 : decode cX5_init 98 = .ok (.bipush 8, 2) := by decide +kernel
theorem dX5_init_100 : decode cX5_init 100 = .ok (.newarray .int, 2) := by decide +kernel
theorem dX5_init_102 : decode cX5_init 102 = .ok (.putfield 48, 3) := by decide +kernel
theorem dX5_init_105 : decode cX5_init 105 = .ok (.aload_n 0, 1) := by decide +kernel
theorem dX5_init_106 : decode cX5_init 106 = .ok (.bipush 20, 2) := by decide +kernel
theorem dX5_init_108 : decode cX5_init 108 = .ok (.newarray .boolean, 2) := by decide +kernel
theorem dX5_init_110 : decode cX5_init 110 = .ok (.putfield 51, 3) := by decide +kernel
theorem dX5_init_113 : decode cX5_init 113 = .ok (.aload_n 0, 1) := by decide +kernel
theorem dX5_init_114 : decode cX5_init 114 = .ok (.sipush 160, 3) := by decide +kernel
theorem dX5_init_117 : decode cX5_init 117 = .ok (.newarray .int, 2) := by decide +kernel
theorem dX5_init_119 : decode cX5_init 119 = .ok (.putfield 54, 3) := by decide +kernel
theorem dX5_init_122 : decode cX5_init 122 = .ok (.aload_n 0, 1) := by decide +kernel
theorem dX5_init_123 : decode cX5_init 123 = .ok (.bipush 20, 2) := by decide +kernel
theorem dX5_init_125 : decode cX5_init 125 = .ok (.newarray .boolean, 2) := by decide +kernel
theorem dX5_init_127 : decode cX5_init 127 = .ok (.putfield 57, 3) := by decide +kernel
theorem dX5_init_130 : decode cX5_init 130 = .ok (.aload_n 0, 1) := by decide +kernel
theorem dX5_init_131 : decode cX5_init 131 = .ok (.getfield 16, 3) := by decide +kernel
theorem dX5_init_134 : decode cX5_init 134 = .ok (.iconst 0, 1) := by decide +kernel
theorem dX5_init_135 : decode cX5_init 135 = .ok (.iconst (-1), 1) := by decide +kernel
theorem dX5_init_136 : decode cX5_init 136 = .ok (.iastore, 1) := by decide +kernel
theorem dX5_init_137 : decode cX5_init 137 = .ok (.aload_n 0, 1) := by decide +kernel
theorem dX5_init_138 : decode cX5_init 138 = .ok (.getfield 22, 3) := by decide +kernel
theorem dX5_init_141 : decode cX5_init 141 = .ok (.iconst 0, 1) := by decide +kernel
theorem dX5_init_142 : decode cX5_init 142 = .ok (.iconst 1, 1) := by decide +kernel
theorem dX5_init_143 : decode cX5_init 143 = .ok (.bastore, 1) := by decide +kernel
theorem dX5_init_144 : decode cX5_init 144 = .ok (.return_, 1) := by decide +kernel
theorem dX5_thrown_0 : decode cX5_thrown 0 = .ok (.aload_n 0, 1) := by decide +kernel
theorem dX5_thrown_1 : decode cX5_thrown 1 = .ok (.getfield 60, 3) := by decide +kernel
theorem dX5_thrown_4 : decode cX5_thrown 4 = .ok (.ireturn, 1) := by decide +kernel
theorem dX5_in_0 : decode cX5_in 0 = .ok (.iload_n 0, 1) := by decide +kernel
theorem dX5_in_1 : decode cX5_in 1 = .ok (.iload_n 1, 1) := by decide +kernel
theorem dX5_in_2 : decode cX5_in 2 = .ok (.if_icmp .lt 12, 3) := by decide +kernel
theorem dX5_in_5 : decode cX5_in 5 = .ok (.iload_n 0, 1) := by decide +kernel
theorem dX5_in_6 : decode cX5_in 6 = .ok (.iload_n 2, 1) := by decide +kernel
theorem dX5_in_7 : decode cX5_in 7 = .ok (.if_icmp .gt 7, 3) := by decide +kernel
theorem dX5_in_10 : decode cX5_in 10 = .ok (.iconst 1, 1) := by decide +kernel
theorem dX5_in_11 : decode cX5_in 11 = .ok (.goto 4, 3) := by decide +kernel
theorem dX5_in_14 : decode cX5_in 14 = .ok (.iconst 0, 1) := by decide +kernel
theorem dX5_in_15 : decode cX5_in 15 = .ok (.ireturn, 1) := by decide +kernel
theorem dX5_isFine_0 : decode cX5_isFine 0 = .ok (.aload_n 0, 1) := by decide +kernel
theorem dX5_isFine_1 : decode cX5_isFine 1 = .ok (.iload_n 1, 1) := by decide +kernel
theorem dX5_isFine_2 : decode cX5_isFine 2 = .ok (.putfield 60, 3) := by decide +kernel
theorem dX5_isFine_5 : decode cX5_isFine 5 = .ok (.iload_n 1, 1) := by decide +kernel
theorem dX5_isFine_6 : decode cX5_isFine 6 = .ok (.ifCond .ne 7, 3) := by decide +kernel
theorem dX5_isFine_9 : decode cX5_isFine 9 = .ok (.iconst 1, 1) := by decide +kernel
theorem dX5_isFine_10 : decode cX5_isFine 10 = .ok (.goto 4, 3) := by decide +kernel
theorem dX5_isFine_13 : decode cX5_isFine 13 = .ok (.iconst 0, 1) := by decide +kernel
theorem dX5_isFine_14 : decode cX5_isFine 14 = .ok (.ireturn, 1) := by decide +kernel
set_option maxRecDepth 20000 in
theorem ggX5_isGroup_X5_in : GoodIn wsX5_isGroup wsX5_in := goodIn_r _ [4] (by decide +kernel) (by decide +kernel)
set_option maxRecDepth 20000 in
theorem gX5_isGroup_X5_in : GoodIn wsX5_isGroup (va_wsS RX5 63 yX5_in wsX5_in) := goodIn_app (goodIn_of _ (by decide +kernel)) ggX5_isGroup_X5_in
theorem dX5_isGroup_0 : decode cX5_isGroup 0 = .ok (.iload_n 0, 1) := by decide +kernel
theorem dX5_isGroup_1 : decode cX5_isGroup 1 = .ok (.iconst 0, 1) := by decide +kernel
theorem dX5_isGroup_2 : decode cX5_isGroup 2 = .ok (.iconst 5, 1) := by decide +kernel
theorem dX5_isGroup_3 : decode cX5_isGroup 3 = .ok (.invokestatic 63, 3) := by decide +kernel
theorem dX5_isGroup_6 : decode cX5_isGroup 6 = .ok (.ireturn, 1) := by decide +kernel
set_option maxRecDepth 20000 in
theorem ggX5_isPerson_X5_in : GoodIn wsX5_isPerson wsX5_in := goodIn_r _ [4] (by decide +kernel) (by decide +kernel)
set_option maxRecDepth 20000 in
theorem gX5_isPerson_X5_in : GoodIn wsX5_isPerson (va_wsS RX5 63 yX5_in wsX5_in) := goodIn_app (goodIn_of _ (by decide +kernel)) ggX5_isPerson_X5_in
theorem dX5_isPerson_0 : decode cX5_isPerson 0 = .ok (.iload_n 0, 1) := by decide +kernel
theorem dX5_isPerson_1 : decode cX5_isPerson 1 = .ok (.iconst 0, 1) := by decide +kernel
theorem dX5_isPerson_2 : decode cX5_isPerson 2 = .ok (.bipush 7, 2) := by decide +kernel
theorem dX5_isPerson_4 : decode cX5_isPerson 4 = .ok (.invokestatic 63, 3) := by decide +kernel
theorem dX5_isPerson_7 : decode cX5_isPerson 7 = .ok (.ireturn, 1) := by decide +kernel
set_option maxRecDepth 20000 in
theorem ggX5_isFolder_X5_in : GoodIn wsX5_isFolder wsX5_in := goodIn_r _ [5] (by decide +kernel) (by decide +kernel)
set_option maxRecDepth 20000 in
theorem gX5_isFolder_X5_in : GoodIn wsX5_isFolder (va_wsS RX5 63 yX5_in wsX5_in) := goodIn_app (goodIn_of _ (by decide +kernel)) ggX5_isFolder_X5_in
theorem dX5_isFolder_0 : decode cX5_isFolder 0 = .ok (.iload_n 1, 1) := by decide +kernel
theorem dX5_isFolder_1 : decode cX5_isFolder 1 = .ok (.iconst 0, 1) := by decide +kernel
theorem dX5_isFolder_2 : decode cX5_isFolder 2 = .ok (.aload_n 0, 1) := by decide +kernel
theorem dX5_isFolder_3 : decode cX5_isFolder 3 = .ok (.getfield 29, 3) := by decide +kernel
theorem dX5_isFolder_6 : decode cX5_isFolder 6 = .ok (.iconst 1, 1) := by decide +kernel
theorem dX5_isFolder_7 : decode cX5_isFolder 7 = .ok (.isub, 1) := by decide +kernel
theorem dX5_isFolder_8 : decode cX5_isFolder 8 = .ok (.invokestatic 63, 3) := by decide +kernel
theorem dX5_isFolder_11 : decode cX5_isFolder 11 = .ok (.ireturn, 1) := by decide +kernel
theorem dX5_has_0 : decode cX5_has 0 = .ok (.iload_n 0, 1) := by decide +kernel
theorem dX5_has_1 : decode cX5_has 1 = .ok (.iload_n 1, 1) := by decide +kernel
theorem dX5_has_2 : decode cX5_has 2 = .ok (.ishr, 1) := by decide +kernel
theorem dX5_has_3 : decode cX5_has 3 = .ok (.iconst 1, 1) := by decide +kernel
theorem dX5_has_4 : decode cX5_has 4 = .ok (.iand, 1) := by decide +kernel
theorem dX5_has_5 : decode cX5_has 5 = .ok (.iconst 1, 1) := by decide +kernel
theorem dX5_has_6 : decode cX5_has 6 = .ok (.if_icmp .ne 7, 3) := by decide +kernel
theorem dX5_has_9 : decode cX5_has 9 = .ok (.iconst 1, 1) := by decide +kernel
theorem dX5_has_10 : decode cX5_has 10 = .ok (.goto 4, 3) := by decide +kernel
theorem dX5_has_13 : decode cX5_has 13 = .ok (.iconst 0, 1) := by decide +kernel
theorem dX5_has_14 : decode cX5_has 14 = .ok (.ireturn, 1) := by decide +kernel
theorem dX5_size_0 : decode cX5_size 0 = .ok (.iconst 0, 1) := by decide +kernel
theorem dX5_size_1 : decode cX5_size 1 = .ok (.istore_n 1, 1) := by decide +kernel
theorem dX5_size_2 : decode cX5_size 2 = .ok (.iconst 0, 1) := by decide +kernel
theorem dX5_size_3 : decode cX5_size 3 = .ok (.istore_n 2, 1) := by decide +kernel
theorem dX5_size_4 : decode cX5_size 4 = .ok (.iload_n 2, 1) := by decide +kernel
theorem dX5_size_5 : decode cX5_size 5 = .ok (.bipush 8, 2) := by decide +kernel
theorem dX5_size_7 : decode cX5_size 7 = .ok (.if_icmp .ge 17, 3) := by decide +kernel
theorem dX5_size_10 : decode cX5_size 10 = .ok (.iload_n 1, 1) := by decide +kernel
theorem dX5_size_11 : decode cX5_size 11 = .ok (.iload_n 0, 1) := by decide +kernel
theorem dX5_size_12 : decode cX5_size 12 = .ok (.iload_n 2, 1) := by decide +kernel
theorem dX5_size_13 : decode cX5_size 13 = .ok (.ishr, 1) := by decide +kernel
theorem dX5_size_14 : decode cX5_size 14 = .ok (.iconst 1, 1) := by decide +kernel
theorem dX5_size_15 : decode cX5_size 15 = .ok (.iand, 1) := by decide +kernel
theorem dX5_size_16 : decode cX5_size 16 = .ok (.iadd, 1) := by decide +kernel
theorem dX5_size_17 : decode cX5_size 17 = .ok (.istore_n 1, 1) := by decide +kernel
theorem dX5_size_18 : decode cX5_size 18 = .ok (.iinc 2 1, 3) := by decide +kernel
theorem dX5_size_21 : decode cX5_size 21 = .ok (.goto (-17), 3) := by decide +kernel
theorem dX5_size_24 : decode cX5_size 24 = .ok (.iload_n 1, 1) := by decide +kernel
theorem dX5_size_25 : decode cX5_size 25 = .ok (.ireturn, 1) := by decide +kernel
set_option maxRecDepth 20000 in
theorem ggX5_groupsIn_X5_has : GoodIn wsX5_groupsIn wsX5_has := goodIn_r _ [5] (by decide +kernel) (by decide +kernel)
set_option maxRecDepth 20000 in
theorem gX5_groupsIn_X5_has : GoodIn wsX5_groupsIn (va_wsS RX5 67 yX5_has wsX5_has) := goodIn_app (goodIn_of _ (by decide +kernel)) ggX5_groupsIn_X5_has
theorem dX5_groupsIn_0 : decode cX5_groupsIn 0 = .ok (.iconst 1, 1) := by decide +kernel
theorem dX5_groupsIn_1 : decode cX5_groupsIn 1 = .ok (.iload_n 1, 1) := by decide +kernel
theorem dX5_groupsIn_2 : decode cX5_groupsIn 2 = .ok (.ishl, 1) := by decide +kernel
theorem dX5_groupsIn_3 : decode cX5_groupsIn 3 = .ok (.istore_n 2, 1) := by decide +kernel
theorem dX5_groupsIn_4 : decode cX5_groupsIn 4 = .ok (.iconst 0, 1) := by decide +kernel
theorem dX5_groupsIn_5 : decode cX5_groupsIn 5 = .ok (.istore_n 3, 1) := by decide +kernel
theorem dX5_groupsIn_6 : decode cX5_groupsIn 6 = .ok (.iload_n 3, 1) := by decide +kernel
theorem dX5_groupsIn_7 : decode cX5_groupsIn 7 = .ok (.bipush 6, 2) := by decide +kernel
theorem dX5_groupsIn_9 : decode cX5_groupsIn 9 = .ok (.if_icmp .ge 48, 3) := by decide +kernel
theorem dX5_groupsIn_12 : decode cX5_groupsIn 12 = .ok (.iconst 0, 1) := by decide +kernel
theorem dX5_groupsIn_13 : decode cX5_groupsIn 13 = .ok (.istore 4, 2) := by decide +kernel
theorem dX5_groupsIn_15 : decode cX5_groupsIn 15 = .ok (.iload 4, 2) := by decide +kernel
theorem dX5_groupsIn_17 : decode cX5_groupsIn 17 = .ok (.bipush 6, 2) := by decide +kernel
theorem dX5_groupsIn_19 : decode cX5_groupsIn 19 = .ok (.if_icmp .ge 32, 3) := by decide +kernel
theorem dX5_groupsIn_22 : decode cX5_groupsIn 22 = .ok (.iload_n 2, 1) := by decide +kernel
theorem dX5_groupsIn_23 : decode cX5_groupsIn 23 = .ok (.iload_n 2, 1) := by decide +kernel
theorem dX5_groupsIn_24 : decode cX5_groupsIn 24 = .ok (.iload 4, 2) := by decide +kernel
theorem dX5_groupsIn_26 : decode cX5_groupsIn 26 = .ok (.invokestatic 67, 3) := by decide +kernel
theorem dX5_groupsIn_29 : decode cX5_groupsIn 29 = .ok (.ifCond .eq 13, 3) := by decide +kernel
theorem dX5_groupsIn_32 : decode cX5_groupsIn 32 = .ok (.aload_n 0, 1) := by decide +kernel
theorem dX5_groupsIn_33 : decode cX5_groupsIn 33 = .ok (.getfield 13, 3) := by decide +kernel
theorem dX5_groupsIn_36 : decode cX5_groupsIn 36 = .ok (.iload 4, 2) := by decide +kernel
theorem dX5_groupsIn_38 : decode cX5_groupsIn 38 = .ok (.iaload, 1) := by decide +kernel
theorem dX5_groupsIn_39 : decode cX5_groupsIn 39 = .ok (.goto 4, 3) := by decide +kernel
theorem dX5_groupsIn_42 : decode cX5_groupsIn 42 = .ok (.iconst 0, 1) := by decide +kernel
theorem dX5_groupsIn_43 : decode cX5_groupsIn 43 = .ok (.ior, 1) := by decide +kernel
theorem dX5_groupsIn_44 : decode cX5_groupsIn 44 = .ok (.istore_n 2, 1) := by decide +kernel
theorem dX5_groupsIn_45 : decode cX5_groupsIn 45 = .ok (.iinc 4 1, 3) := by decide +kernel
theorem dX5_groupsIn_48 : decode cX5_groupsIn 48 = .ok (.goto (-33), 3) := by decide +kernel
theorem dX5_groupsIn_51 : decode cX5_groupsIn 51 = .ok (.iinc 3 1, 3) := by decide +kernel
theorem dX5_groupsIn_54 : decode cX5_groupsIn 54 = .ok (.goto (-48), 3) := by decide +kernel
theorem dX5_groupsIn_57 : decode cX5_groupsIn 57 = .ok (.iload_n 2, 1) := by decide +kernel
theorem dX5_groupsIn_58 : decode cX5_groupsIn 58 = .ok (.ireturn, 1) := by decide +kernel
set_option maxRecDepth 20000 in
theorem ggX5_membersOf_X5_groupsIn : GoodIn wsX5_membersOf wsX5_groupsIn := goodIn_r _ [6, 7, 8, 9, 5, 10, 11, 12, 13, 14, 15, 16, 17, 18, 19, 20, 21, 22, 23, 24, 25, 26, 27, 28, 29, 30] (by decide +kernel) (by decide +kernel)
set_option maxRecDepth 20000 in
theorem gX5_membersOf_X5_groupsIn : GoodIn wsX5_membersOf (wsV RX5 71 RX5 yX5_groupsIn wsX5_groupsIn) := goodIn_app (goodIn_of _ (by decide +kernel)) ggX5_membersOf_X5_groupsIn
set_option maxRecDepth 20000 in
theorem ggX5_membersOf_X5_has : GoodIn wsX5_membersOf wsX5_has := goodIn_r _ [10] (by decide +kernel) (by decide +kernel)
set_option maxRecDepth 20000 in
theorem gX5_membersOf_X5_has : GoodIn wsX5_membersOf (va_wsS RX5 67 yX5_has wsX5_has) := goodIn_app (goodIn_of _ (by decide +kernel)) ggX5_membersOf_X5_has
theorem dX5_membersOf_0 : decode cX5_membersOf 0 = .ok (.aload_n 0, 1) := by decide +kernel
theorem dX5_membersOf_1 : decode cX5_membersOf 1 = .ok (.iload_n 1, 1) := by decide +kernel
theorem dX5_membersOf_2 : decode cX5_membersOf 2 = .ok (.invokevirtual 71, 3) := by decide +kernel
theorem dX5_membersOf_5 : decode cX5_membersOf 5 = .ok (.istore_n 2, 1) := by decide +kernel
theorem dX5_membersOf_6 : decode cX5_membersOf 6 = .ok (.iconst 0, 1) := by decide +kernel
theorem dX5_membersOf_7 : decode cX5_membersOf 7 = .ok (.istore_n 3, 1) := by decide +kernel
theorem dX5_membersOf_8 : decode cX5_membersOf 8 = .ok (.iconst 0, 1) := by decide +kernel
theorem dX5_membersOf_9 : decode cX5_membersOf 9 = .ok (.istore 4, 2) := by decide +kernel
theorem dX5_membersOf_11 : decode cX5_membersOf 11 = .ok (.iload 4, 2) := by decide +kernel
theorem dX5_membersOf_13 : decode cX5_membersOf 13 = .ok (.bipush 6, 2) := by decide +kernel
theorem dX5_membersOf_15 : decode cX5_membersOf 15 = .ok (.if_icmp .ge 32, 3) := by decide +kernel
theorem dX5_membersOf_18 : decode cX5_membersOf 18 = .ok (.iload_n 3, 1) := by decide +kernel
theorem dX5_membersOf_19 : decode cX5_membersOf 19 = .ok (.iload_n 2, 1) := by decide +kernel
theorem dX5_membersOf_20 : decode cX5_membersOf 20 = .ok (.iload 4, 2) := by decide +kernel
theorem dX5_membersOf_22 : decode cX5_membersOf 22 = .ok (.invokestatic 67, 3) := by decide +kernel
theorem dX5_membersOf_25 : decode cX5_membersOf 25 = .ok (.ifCond .eq 13, 3) := by decide +kernel
theorem dX5_membersOf_28 : decode cX5_membersOf 28 = .ok (.aload_n 0, 1) := by decide +kernel
theorem dX5_membersOf_29 : decode cX5_membersOf 29 = .ok (.getfield 7, 3) := by decide +kernel
theorem dX5_membersOf_32 : decode cX5_membersOf 32 = .ok (.iload 4, 2) := by decide +kernel
theorem dX5_membersOf_34 : decode cX5_membersOf 34 = .ok (.iaload, 1) := by decide +kernel
theorem dX5_membersOf_35 : decode cX5_membersOf 35 = .ok (.goto 4, 3) := by decide +kernel
theorem dX5_membersOf_38 : decode cX5_membersOf 38 = .ok (.iconst 0, 1) := by decide +kernel
theorem dX5_membersOf_39 : decode cX5_membersOf 39 = .ok (.ior, 1) := by decide +kernel
theorem dX5_membersOf_40 : decode cX5_membersOf 40 = .ok (.istore_n 3, 1) := by decide +kernel
theorem dX5_membersOf_41 : decode cX5_membersOf 41 = .ok (.iinc 4 1, 3) := by decide +kernel
theorem dX5_membersOf_44 : decode cX5_membersOf 44 = .ok (.goto (-33), 3) := by decide +kernel
theorem dX5_membersOf_47 : decode cX5_membersOf 47 = .ok (.iload_n 3, 1) := by decide +kernel
theorem dX5_membersOf_48 : decode cX5_membersOf 48 = .ok (.ireturn, 1) := by decide +kernel
set_option maxRecDepth 20000 in
theorem ggX5_setMember_X5_isGroup : GoodIn wsX5_setMember wsX5_isGroup := goodIn_r _ [5, 6, 7, 4, 8] (by decide +kernel) (by decide +kernel)
set_option maxRecDepth 20000 in
theorem gX5_setMember_X5_isGroup : GoodIn wsX5_setMember (va_wsS RX5 75 yX5_isGroup wsX5_isGroup) := goodIn_app (goodIn_of _ (by decide +kernel)) ggX5_setMember_X5_isGroup
set_option maxRecDepth 20000 in
theorem ggX5_setMember_X5_isPerson : GoodIn wsX5_setMember wsX5_isPerson := goodIn_r _ [11, 6, 7, 4, 8] (by decide +kernel) (by decide +kernel)
set_option maxRecDepth 20000 in
theorem gX5_setMember_X5_isPerson : GoodIn wsX5_setMember (va_wsS RX5 79 yX5_isPerson wsX5_isPerson) := goodIn_app (goodIn_of _ (by decide +kernel)) ggX5_setMember_X5_isPerson
set_option maxRecDepth 20000 in
theorem ggX5_setMember_X5_isFine : GoodIn wsX5_setMember wsX5_isFine := goodIn_r _ [15, 16, 20, 21, 22, 23, 24, 25, 26, 27, 28, 29, 30, 31, 32, 33, 34, 35, 36, 37, 38, 39] (by decide +kernel) (by decide +kernel)
set_option maxRecDepth 20000 in
theorem gX5_setMember_X5_isFine : GoodIn wsX5_setMember (wsV RX5 82 RX5 yX5_isFine wsX5_isFine) := goodIn_app (goodIn_of _ (by decide +kernel)) ggX5_setMember_X5_isFine
set_option maxRecDepth 20000 in
theorem ggX5_setMember_X5_has : GoodIn wsX5_setMember wsX5_has := goodIn_r _ [19] (by decide +kernel) (by decide +kernel)
set_option maxRecDepth 20000 in
theorem gX5_setMember_X5_has : GoodIn wsX5_setMember (va_wsS RX5 67 yX5_has wsX5_has) := goodIn_app (goodIn_of _ (by decide +kernel)) ggX5_setMember_X5_has
theorem dX5_setMember_0 : decode cX5_setMember 0 = .ok (.aload_n 0, 1) := by decide +kernel
theorem dX5_setMember_1 : decode cX5_setMember 1 = .ok (.iload_n 1, 1) := by decide +kernel
theorem dX5_setMember_2 : decode cX5_setMember 2 = .ok (.invokestatic 75, 3) := by decide +kernel
theorem dX5_setMember_5 : decode cX5_setMember 5 = .ok (.ifCond .eq 14, 3) := by decide +kernel
theorem dX5_setMember_8 : decode cX5_setMember 8 = .ok (.iload_n 2, 1) := by decide +kernel
theorem dX5_setMember_9 : decode cX5_setMember 9 = .ok (.invokestatic 79, 3) := by decide +kernel
theorem dX5_setMember_12 : decode cX5_setMember 12 = .ok (.ifCond .eq 7, 3) := by decide +kernel
theorem dX5_setMember_15 : decode cX5_setMember 15 = .ok (.iconst 0, 1) := by decide +kernel
theorem dX5_setMember_16 : decode cX5_setMember 16 = .ok (.goto 4, 3) := by decide +kernel
theorem dX5_setMember_19 : decode cX5_setMember 19 = .ok (.iconst 1, 1) := by decide +kernel
theorem dX5_setMember_20 : decode cX5_setMember 20 = .ok (.invokevirtual 82, 3) := by decide +kernel
theorem dX5_setMember_23 : decode cX5_setMember 23 = .ok (.ifCond .ne 5, 3) := by decide +kernel
theorem dX5_setMember_26 : decode cX5_setMember 26 = .ok (.iconst 0, 1) := by decide +kernel
theorem dX5_setMember_27 : decode cX5_setMember 27 = .ok (.ireturn, 1) := by decide +kernel
theorem dX5_setMember_28 : decode cX5_setMember 28 = .ok (.aload_n 0, 1) := by decide +kernel
theorem dX5_setMember_29 : decode cX5_setMember 29 = .ok (.getfield 7, 3) := by decide +kernel
theorem dX5_setMember_32 : decode cX5_setMember 32 = .ok (.iload_n 1, 1) := by decide +kernel
theorem dX5_setMember_33 : decode cX5_setMember 33 = .ok (.iaload, 1) := by decide +kernel
theorem dX5_setMember_34 : decode cX5_setMember 34 = .ok (.iload_n 2, 1) := by decide +kernel
theorem dX5_setMember_35 : decode cX5_setMember 35 = .ok (.invokestatic 67, 3) := by decide +kernel
theorem dX5_setMember_38 : decode cX5_setMember 38 = .ok (.istore 4, 2) := by decide +kernel
theorem dX5_setMember_40 : decode cX5_setMember 40 = .ok (.aload_n 0, 1) := by decide +kernel
theorem dX5_setMember_41 : decode cX5_setMember 41 = .ok (.getfield 7, 3) := by decide +kernel
theorem dX5_setMember_44 : decode cX5_setMember 44 = .ok (.iload_n 1, 1) := by decide +kernel
theorem dX5_setMember_45 : decode cX5_setMember 45 = .ok (.iload_n 3, 1) := by decide +kernel
theorem dX5_setMember_46 : decode cX5_setMember 46 = .ok (.ifCond .eq 16, 3) := by decide +kernel
theorem dX5_setMember_49 : decode cX5_setMember 49 = .ok (.aload_n 0, 1) := by decide +kernel
theorem dX5_setMember_50 : decode cX5_setMember 50 = .ok (.getfield 7, 3) := by decide +kernel
theorem dX5_setMember_53 : decode cX5_setMember 53 = .ok (.iload_n 1, 1) := by decide +kernel
theorem dX5_setMember_54 : decode cX5_setMember 54 = .ok (.iaload, 1) := by decide +kernel
theorem dX5_setMember_55 : decode cX5_setMember 55 = .ok (.iconst 1, 1) := by decide +kernel
theorem dX5_setMember_56 : decode cX5_setMember 56 = .ok (.iload_n 2, 1) := by decide +kernel
theorem dX5_setMember_57 : decode cX5_setMember 57 = .ok (.ishl, 1) := by decide +kernel
theorem dX5_setMember_58 : decode cX5_setMember 58 = .ok (.ior, 1) := by decide +kernel
theorem dX5_setMember_59 : decode cX5_setMember 59 = .ok (.goto 15, 3) := by decide +kernel
theorem dX5_setMember_62 : decode cX5_setMember 62 = .ok (.aload_n 0, 1) := by decide +kernel
theorem dX5_setMember_63 : decode cX5_setMember 63 = .ok (.getfield 7, 3) := by decide +kernel
theorem dX5_setMember_66 : decode cX5_setMember 66 = .ok (.iload_n 1, 1) := by decide +kernel
theorem dX5_setMember_67 : decode cX5_setMember 67 = .ok (.iaload, 1) := by decide +kernel
theorem dX5_setMember_68 : decode cX5_setMember 68 = .ok (.iconst 1, 1) := by decide +kernel
theorem dX5_setMember_69 : decode cX5_setMember 69 = .ok (.iload_n 2, 1) := by decide +kernel
theorem dX5_setMember_70 : decode cX5_setMember 70 = .ok (.ishl, 1) := by decide +kernel
theorem dX5_setMember_71 : decode cX5_setMember 71 = .ok (.iconst (-1), 1) := by decide +kernel
theorem dX5_setMember_72 : decode cX5_setMember 72 = .ok (.ixor, 1) := by decide +kernel
theorem dX5_setMember_73 : decode cX5_setMember 73 = .ok (.iand, 1) := by decide +kernel
theorem dX5_setMember_74 : decode cX5_setMember 74 = .ok (.iastore, 1) := by decide +kernel
theorem dX5_setMember_75 : decode cX5_setMember 75 = .ok (.iload 4, 2) := by decide +kernel
theorem dX5_setMember_77 : decode cX5_setMember 77 = .ok (.ireturn, 1) := by decide +kernel
set_option maxRecDepth 20000 in
theorem ggX5_nest_X5_isGroup : GoodIn wsX5_nest wsX5_isGroup := goodIn_r _ [5, 6, 7, 4, 8] (by decide +kernel) (by decide +kernel)
set_option maxRecDepth 20000 in
theorem gX5_nest_X5_isGroup : GoodIn wsX5_nest (va_wsS RX5 75 yX5_isGroup wsX5_isGroup) := goodIn_app (goodIn_of _ (by decide +kernel)) ggX5_nest_X5_isGroup
set_option maxRecDepth 20000 in
theorem ggX5_nest_X5_groupsIn : GoodIn wsX5_nest wsX5_groupsIn := goodIn_r _ [12, 1, 13, 14, 4, 15, 21, 22, 23, 24, 25, 26, 27, 28, 29, 30, 31, 32, 33, 34, 35, 36, 37, 38, 39, 40] (by decide +kernel) (by decide +kernel)
set_option maxRecDepth 20000 in
theorem gX5_nest_X5_groupsIn : GoodIn wsX5_nest (wsV RX5 71 RX5 yX5_groupsIn wsX5_groupsIn) := goodIn_app (goodIn_of _ (by decide +kernel)) ggX5_nest_X5_groupsIn
set_option maxRecDepth 20000 in
theorem ggX5_nest_X5_has : GoodIn wsX5_nest wsX5_has := goodIn_r _ [15] (by decide +kernel) (by decide +kernel)
set_option maxRecDepth 20000 in
theorem gX5_nest_X5_has : GoodIn wsX5_nest (va_wsS RX5 67 yX5_has wsX5_has) := goodIn_app (goodIn_of _ (by decide +kernel)) ggX5_nest_X5_has
set_option maxRecDepth 20000 in
theorem ggX5_nest_X5_isFine : GoodIn wsX5_nest wsX5_isFine := goodIn_r _ [19, 20, 21, 22, 23, 24, 25, 26, 27, 28, 29, 30, 31, 32, 33, 34, 35, 36, 37, 38, 39, 40] (by decide +kernel) (by decide +kernel)
set_option maxRecDepth 20000 in
theorem gX5_nest_X5_isFine : GoodIn wsX5_nest (wsV RX5 82 RX5 yX5_isFine wsX5_isFine) := goodIn_app (goodIn_of _ (by decide +kernel)) ggX5_nest_X5_isFine
theorem dX5_nest_0 : decode cX5_nest 0 = .ok (.iload_n 1, 1) := by decide +kernel
theorem dX5_nest_1 : decode cX5_nest 1 = .ok (.invokestatic 75, 3) := by decide +kernel
theorem dX5_nest_4 : decode cX5_nest 4 = .ok (.ifCond .eq 10, 3) := by decide +kernel
theorem dX5_nest_7 : decode cX5_nest 7 = .ok (.iload_n 2, 1) := by decide +kernel
theorem dX5_nest_8 : decode cX5_nest 8 = .ok (.invokestatic 75, 3) := by decide +kernel
theorem dX5_nest_11 : decode cX5_nest 11 = .ok (.ifCond .ne 7, 3) := by decide +kernel
theorem dX5_nest_14 : decode cX5_nest 14 = .ok (.iconst 1, 1) := by decide +kernel
theorem dX5_nest_15 : decode cX5_nest 15 = .ok (.goto 20, 3) := by decide +kernel
theorem dX5_nest_18 : decode cX5_nest 18 = .ok (.aload_n 0, 1) := by decide +kernel
theorem dX5_nest_19 : decode cX5_nest 19 = .ok (.iload_n 2, 1) := by decide +kernel
theorem dX5_nest_20 : decode cX5_nest 20 = .ok (.invokevirtual 71, 3) := by decide +kernel
theorem dX5_nest_23 : decode cX5_nest 23 = .ok (.iload_n 1, 1) := by decide +kernel
theorem dX5_nest_24 : decode cX5_nest 24 = .ok (.invokestatic 67, 3) := by decide +kernel
theorem dX5_nest_27 : decode cX5_nest 27 = .ok (.ifCond .eq 7, 3) := by decide +kernel
theorem dX5_nest_30 : decode cX5_nest 30 = .ok (.iconst 2, 1) := by decide +kernel
theorem dX5_nest_31 : decode cX5_nest 31 = .ok (.goto 4, 3) := by decide +kernel
theorem dX5_nest_34 : decode cX5_nest 34 = .ok (.iconst 0, 1) := by decide +kernel
theorem dX5_nest_35 : decode cX5_nest 35 = .ok (.istore_n 3, 1) := by decide +kernel
theorem dX5_nest_36 : decode cX5_nest 36 = .ok (.aload_n 0, 1) := by decide +kernel
theorem dX5_nest_37 : decode cX5_nest 37 = .ok (.iload_n 3, 1) := by decide +kernel
theorem dX5_nest_38 : decode cX5_nest 38 = .ok (.invokevirtual 82, 3) := by decide +kernel
theorem dX5_nest_41 : decode cX5_nest 41 = .ok (.ifCond .ne 5, 3) := by decide +kernel
theorem dX5_nest_44 : decode cX5_nest 44 = .ok (.iconst 0, 1) := by decide +kernel
theorem dX5_nest_45 : decode cX5_nest 45 = .ok (.ireturn, 1) := by decide +kernel
theorem dX5_nest_46 : decode cX5_nest 46 = .ok (.aload_n 0, 1) := by decide +kernel
theorem dX5_nest_47 : decode cX5_nest 47 = .ok (.getfield 13, 3) := by decide +kernel
theorem dX5_nest_50 : decode cX5_nest 50 = .ok (.iload_n 1, 1) := by decide +kernel
theorem dX5_nest_51 : decode cX5_nest 51 = .ok (.dup2, 1) := by decide +kernel
theorem dX5_nest_52 : decode cX5_nest 52 = .ok (.iaload, 1) := by decide +kernel
theorem dX5_nest_53 : decode cX5_nest 53 = .ok (.iconst 1, 1) := by decide +kernel
theorem dX5_nest_54 : decode cX5_nest 54 = .ok (.iload_n 2, 1) := by decide +kernel
theorem dX5_nest_55 : decode cX5_nest 55 = .ok (.ishl, 1) := by decide +kernel
theorem dX5_nest_56 : decode cX5_nest 56 = .ok (.ixor, 1) := by decide +kernel
theorem dX5_nest_57 : decode cX5_nest 57 = .ok (.iastore, 1) := by decide +kernel
theorem dX5_nest_58 : decode cX5_nest 58 = .ok (.aload_n 0, 1) := by decide +kernel
theorem dX5_nest_59 : decode cX5_nest 59 = .ok (.getfield 13, 3) := by decide +kernel
theorem dX5_nest_62 : decode cX5_nest 62 = .ok (.iload_n 1, 1) := by decide +kernel
theorem dX5_nest_63 : decode cX5_nest 63 = .ok (.iaload, 1) := by decide +kernel
theorem dX5_nest_64 : decode cX5_nest 64 = .ok (.iload_n 2, 1) := by decide +kernel
theorem dX5_nest_65 : decode cX5_nest 65 = .ok (.invokestatic 67, 3) := by decide +kernel
theorem dX5_nest_68 : decode cX5_nest 68 = .ok (.ireturn, 1) := by decide +kernel
set_option maxRecDepth 20000 in
theorem ggX5_members_X5_isGroup : GoodIn wsX5_members wsX5_isGroup := goodIn_r _ [4, 5, 6, 3, 7] (by decide +kernel) (by decide +kernel)
set_option maxRecDepth 20000 in
theorem gX5_members_X5_isGroup : GoodIn wsX5_members (va_wsS RX5 75 yX5_isGroup wsX5_isGroup) := goodIn_app (goodIn_of _ (by decide +kernel)) ggX5_members_X5_isGroup
set_option maxRecDepth 20000 in
theorem ggX5_members_X5_isFine : GoodIn wsX5_members wsX5_isFine := goodIn_r _ [11, 12, 26, 27, 28, 29, 30, 31, 32, 33, 34, 35, 36, 37, 38, 39, 40, 41, 42, 43, 44, 45] (by decide +kernel) (by decide +kernel)
set_option maxRecDepth 20000 in
theorem gX5_members_X5_isFine : GoodIn wsX5_members (wsV RX5 82 RX5 yX5_isFine wsX5_isFine) := goodIn_app (goodIn_of _ (by decide +kernel)) ggX5_members_X5_isFine
set_option maxRecDepth 20000 in
theorem ggX5_members_X5_membersOf : GoodIn wsX5_members wsX5_membersOf := goodIn_r _ [16, 17, 18, 19, 20, 3, 21, 22, 23, 24, 25, 26, 27, 28, 29, 30, 31, 32, 33, 34, 35, 36, 37, 38, 39, 40, 41, 42, 43, 44, 45] (by decide +kernel) (by decide +kernel)
set_option maxRecDepth 20000 in
theorem gX5_members_X5_membersOf : GoodIn wsX5_members (wsV RX5 85 RX5 yX5_membersOf wsX5_membersOf) := goodIn_app (goodIn_of _ (by decide +kernel)) ggX5_members_X5_membersOf
theorem dX5_members_0 : decode cX5_members 0 = .ok (.aload_n 0, 1) := by decide +kernel
theorem dX5_members_1 : decode cX5_members 1 = .ok (.iload_n 1, 1) := by decide +kernel
theorem dX5_members_2 : decode cX5_members 2 = .ok (.invokestatic 75, 3) := by decide +kernel
theorem dX5_members_5 : decode cX5_members 5 = .ok (.ifCond .eq 7, 3) := by decide +kernel
theorem dX5_members_8 : decode cX5_members 8 = .ok (.iconst 0, 1) := by decide +kernel
theorem dX5_members_9 : decode cX5_members 9 = .ok (.goto 4, 3) := by decide +kernel
theorem dX5_members_12 : decode cX5_members 12 = .ok (.iconst 1, 1) := by decide +kernel
theorem dX5_members_13 : decode cX5_members 13 = .ok (.invokevirtual 82, 3) := by decide +kernel
theorem dX5_members_16 : decode cX5_members 16 = .ok (.ifCond .eq 11, 3) := by decide +kernel
theorem dX5_members_19 : decode cX5_members 19 = .ok (.aload_n 0, 1) := by decide +kernel
theorem dX5_members_20 : decode cX5_members 20 = .ok (.iload_n 1, 1) := by decide +kernel
theorem dX5_members_21 : decode cX5_members 21 = .ok (.invokevirtual 85, 3) := by decide +kernel
theorem dX5_members_24 : decode cX5_members 24 = .ok (.goto 4, 3) := by decide +kernel
theorem dX5_members_27 : decode cX5_members 27 = .ok (.iconst 0, 1) := by decide +kernel
theorem dX5_members_28 : decode cX5_members 28 = .ok (.ireturn, 1) := by decide +kernel
set_option maxRecDepth 20000 in
theorem ggX5_addFolder_X5_isFolder : GoodIn wsX5_addFolder wsX5_isFolder := goodIn_r _ [9, 1, 10, 11, 8, 12, 21, 22, 23, 24, 25, 26, 27, 28, 29, 30, 31, 32, 33, 34, 35, 36, 37, 38, 39, 40] (by decide +kernel) (by decide +kernel)
set_option maxRecDepth 20000 in
theorem gX5_addFolder_X5_isFolder : GoodIn wsX5_addFolder (wsV RX5 88 RX5 yX5_isFolder wsX5_isFolder) := goodIn_app (goodIn_of _ (by decide +kernel)) ggX5_addFolder_X5_isFolder
set_option maxRecDepth 20000 in
theorem ggX5_addFolder_X5_isPerson : GoodIn wsX5_addFolder wsX5_isPerson := goodIn_r _ [15, 10, 11, 8, 12] (by decide +kernel) (by decide +kernel)
set_option maxRecDepth 20000 in
theorem gX5_addFolder_X5_isPerson : GoodIn wsX5_addFolder (va_wsS RX5 79 yX5_isPerson wsX5_isPerson) := goodIn_app (goodIn_of _ (by decide +kernel)) ggX5_addFolder_X5_isPerson
set_option maxRecDepth 20000 in
theorem ggX5_addFolder_X5_isFine : GoodIn wsX5_addFolder wsX5_isFine := goodIn_r _ [19, 20, 21, 22, 23, 24, 25, 26, 27, 28, 29, 30, 31, 32, 33, 34, 35, 36, 37, 38, 39, 40] (by decide +kernel) (by decide +kernel)
set_option maxRecDepth 20000 in
theorem gX5_addFolder_X5_isFine : GoodIn wsX5_addFolder (wsV RX5 82 RX5 yX5_isFine wsX5_isFine) := goodIn_app (goodIn_of _ (by decide +kernel)) ggX5_addFolder_X5_isFine
theorem dX5_addFolder_0 : decode cX5_addFolder 0 = .ok (.aload_n 0, 1) := by decide +kernel
theorem dX5_addFolder_1 : decode cX5_addFolder 1 = .ok (.aload_n 0, 1) := by decide +kernel
theorem dX5_addFolder_2 : decode cX5_addFolder 2 = .ok (.iload_n 1, 1) := by decide +kernel
theorem dX5_addFolder_3 : decode cX5_addFolder 3 = .ok (.invokevirtual 88, 3) := by decide +kernel
theorem dX5_addFolder_6 : decode cX5_addFolder 6 = .ok (.ifCond .eq 10, 3) := by decide +kernel
theorem dX5_addFolder_9 : decode cX5_addFolder 9 = .ok (.iload_n 2, 1) := by decide +kernel
theorem dX5_addFolder_10 : decode cX5_addFolder 10 = .ok (.invokestatic 79, 3) := by decide +kernel
theorem dX5_addFolder_13 : decode cX5_addFolder 13 = .ok (.ifCond .ne 7, 3) := by decide +kernel
theorem dX5_addFolder_16 : decode cX5_addFolder 16 = .ok (.iconst 1, 1) := by decide +kernel
theorem dX5_addFolder_17 : decode cX5_addFolder 17 = .ok (.goto 17, 3) := by decide +kernel
theorem dX5_addFolder_20 : decode cX5_addFolder 20 = .ok (.aload_n 0, 1) := by decide +kernel
theorem dX5_addFolder_21 : decode cX5_addFolder 21 = .ok (.getfield 29, 3) := by decide +kernel
theorem dX5_addFolder_24 : decode cX5_addFolder 24 = .ok (.bipush 20, 2) := by decide +kernel
theorem dX5_addFolder_26 : decode cX5_addFolder 26 = .ok (.if_icmp .ne 7, 3) := by decide +kernel
theorem dX5_addFolder_29 : decode cX5_addFolder 29 = .ok (.iconst 2, 1) := by decide +kernel
theorem dX5_addFolder_30 : decode cX5_addFolder 30 = .ok (.goto 4, 3) := by decide +kernel
theorem dX5_addFolder_33 : decode cX5_addFolder 33 = .ok (.iconst 0, 1) := by decide +kernel
theorem dX5_addFolder_34 : decode cX5_addFolder 34 = .ok (.invokevirtual 82, 3) := by decide +kernel
theorem dX5_addFolder_37 : decode cX5_addFolder 37 = .ok (.ifCond .ne 5, 3) := by decide +kernel
theorem dX5_addFolder_40 : decode cX5_addFolder 40 = .ok (.iconst 0, 1) := by decide +kernel
theorem dX5_addFolder_41 : decode cX5_addFolder 41 = .ok (.ireturn, 1) := by decide +kernel
theorem dX5_addFolder_42 : decode cX5_addFolder 42 = .ok (.aload_n 0, 1) := by decide +kernel
theorem dX5_addFolder_43 : decode cX5_addFolder 43 = .ok (.getfield 16, 3) := by decide +kernel
theorem dX5_addFolder_46 : decode cX5_addFolder 46 = .ok (.aload_n 0, 1) := by decide +kernel
theorem dX5_addFolder_47 : decode cX5_addFolder 47 = .ok (.getfield 29, 3) := by decide +kernel
theorem dX5_addFolder_50 : decode cX5_addFolder 50 = .ok (.iload_n 1, 1) := by decide +kernel
theorem dX5_addFolder_51 : decode cX5_addFolder 51 = .ok (.iastore, 1) := by decide +kernel
theorem dX5_addFolder_52 : decode cX5_addFolder 52 = .ok (.aload_n 0, 1) := by decide +kernel
theorem dX5_addFolder_53 : decode cX5_addFolder 53 = .ok (.getfield 19, 3) := by decide +kernel
theorem dX5_addFolder_56 : decode cX5_addFolder 56 = .ok (.aload_n 0, 1) := by decide +kernel
theorem dX5_addFolder_57 : decode cX5_addFolder 57 = .ok (.getfield 29, 3) := by decide +kernel
theorem dX5_addFolder_60 : decode cX5_addFolder 60 = .ok (.iload_n 2, 1) := by decide +kernel
theorem dX5_addFolder_61 : decode cX5_addFolder 61 = .ok (.iastore, 1) := by decide +kernel
theorem dX5_addFolder_62 : decode cX5_addFolder 62 = .ok (.aload_n 0, 1) := by decide +kernel
theorem dX5_addFolder_63 : decode cX5_addFolder 63 = .ok (.getfield 22, 3) := by decide +kernel
theorem dX5_addFolder_66 : decode cX5_addFolder 66 = .ok (.aload_n 0, 1) := by decide +kernel
theorem dX5_addFolder_67 : decode cX5_addFolder 67 = .ok (.getfield 29, 3) := by decide +kernel
theorem dX5_addFolder_70 : decode cX5_addFolder 70 = .ok (.iconst 1, 1) := by decide +kernel
theorem dX5_addFolder_71 : decode cX5_addFolder 71 = .ok (.bastore, 1) := by decide +kernel
theorem dX5_addFolder_72 : decode cX5_addFolder 72 = .ok (.aload_n 0, 1) := by decide +kernel
theorem dX5_addFolder_73 : decode cX5_addFolder 73 = .ok (.dup, 1) := by decide +kernel
theorem dX5_addFolder_74 : decode cX5_addFolder 74 = .ok (.getfield 29, 3) := by decide +kernel
theorem dX5_addFolder_77 : decode cX5_addFolder 77 = .ok (.iconst 1, 1) := by decide +kernel
theorem dX5_addFolder_78 : decode cX5_addFolder 78 = .ok (.iadd, 1) := by decide +kernel
theorem dX5_addFolder_79 : decode cX5_addFolder 79 = .ok (.putfield 29, 3) := by decide +kernel
theorem dX5_addFolder_82 : decode cX5_addFolder 82 = .ok (.aload_n 0, 1) := by decide +kernel
theorem dX5_addFolder_83 : decode cX5_addFolder 83 = .ok (.getfield 29, 3) := by decide +kernel
theorem dX5_addFolder_86 : decode cX5_addFolder 86 = .ok (.iconst 1, 1) := by decide +kernel
theorem dX5_addFolder_87 : decode cX5_addFolder 87 = .ok (.isub, 1) := by decide +kernel
theorem dX5_addFolder_88 : decode cX5_addFolder 88 = .ok (.ireturn, 1) := by decide +kernel
set_option maxRecDepth 20000 in
theorem ggX5_setOwner_X5_isFolder : GoodIn wsX5_setOwner wsX5_isFolder := goodIn_r _ [6, 7, 8, 9, 5, 10, 19, 20, 21, 22, 23, 24, 25, 26, 27, 28, 29, 30, 31, 32, 33, 34, 35, 36, 37, 38] (by decide +kernel) (by decide +kernel)
set_option maxRecDepth 20000 in
theorem gX5_setOwner_X5_isFolder : GoodIn wsX5_setOwner (wsV RX5 88 RX5 yX5_isFolder wsX5_isFolder) := goodIn_app (goodIn_of _ (by decide +kernel)) ggX5_setOwner_X5_isFolder
set_option maxRecDepth 20000 in
theorem ggX5_setOwner_X5_isPerson : GoodIn wsX5_setOwner wsX5_isPerson := goodIn_r _ [13, 8, 9, 5, 10] (by decide +kernel) (by decide +kernel)
set_option maxRecDepth 20000 in
theorem gX5_setOwner_X5_isPerson : GoodIn wsX5_setOwner (va_wsS RX5 79 yX5_isPerson wsX5_isPerson) := goodIn_app (goodIn_of _ (by decide +kernel)) ggX5_setOwner_X5_isPerson
set_option maxRecDepth 20000 in
theorem ggX5_setOwner_X5_isFine : GoodIn wsX5_setOwner wsX5_isFine := goodIn_r _ [17, 18, 19, 20, 21, 22, 23, 24, 25, 26, 27, 28, 29, 30, 31, 32, 33, 34, 35, 36, 37, 38] (by decide +kernel) (by decide +kernel)
set_option maxRecDepth 20000 in
theorem gX5_setOwner_X5_isFine : GoodIn wsX5_setOwner (wsV RX5 82 RX5 yX5_isFine wsX5_isFine) := goodIn_app (goodIn_of _ (by decide +kernel)) ggX5_setOwner_X5_isFine
theorem dX5_setOwner_0 : decode cX5_setOwner 0 = .ok (.aload_n 0, 1) := by decide +kernel
theorem dX5_setOwner_1 : decode cX5_setOwner 1 = .ok (.aload_n 0, 1) := by decide +kernel
theorem dX5_setOwner_2 : decode cX5_setOwner 2 = .ok (.iload_n 1, 1) := by decide +kernel
theorem dX5_setOwner_3 : decode cX5_setOwner 3 = .ok (.invokevirtual 88, 3) := by decide +kernel
theorem dX5_setOwner_6 : decode cX5_setOwner 6 = .ok (.ifCond .eq 14, 3) := by decide +kernel
theorem dX5_setOwner_9 : decode cX5_setOwner 9 = .ok (.iload_n 2, 1) := by decide +kernel
theorem dX5_setOwner_10 : decode cX5_setOwner 10 = .ok (.invokestatic 79, 3) := by decide +kernel
theorem dX5_setOwner_13 : decode cX5_setOwner 13 = .ok (.ifCond .eq 7, 3) := by decide +kernel
theorem dX5_setOwner_16 : decode cX5_setOwner 16 = .ok (.iconst 0, 1) := by decide +kernel
theorem dX5_setOwner_17 : decode cX5_setOwner 17 = .ok (.goto 4, 3) := by decide +kernel
theorem dX5_setOwner_20 : decode cX5_setOwner 20 = .ok (.iconst 1, 1) := by decide +kernel
theorem dX5_setOwner_21 : decode cX5_setOwner 21 = .ok (.invokevirtual 82, 3) := by decide +kernel
theorem dX5_setOwner_24 : decode cX5_setOwner 24 = .ok (.ifCond .ne 5, 3) := by decide +kernel
theorem dX5_setOwner_27 : decode cX5_setOwner 27 = .ok (.iconst 0, 1) := by decide +kernel
theorem dX5_setOwner_28 : decode cX5_setOwner 28 = .ok (.ireturn, 1) := by decide +kernel
theorem dX5_setOwner_29 : decode cX5_setOwner 29 = .ok (.aload_n 0, 1) := by decide +kernel
theorem dX5_setOwner_30 : decode cX5_setOwner 30 = .ok (.getfield 19, 3) := by decide +kernel
theorem dX5_setOwner_33 : decode cX5_setOwner 33 = .ok (.iload_n 1, 1) := by decide +kernel
theorem dX5_setOwner_34 : decode cX5_setOwner 34 = .ok (.iaload, 1) := by decide +kernel
theorem dX5_setOwner_35 : decode cX5_setOwner 35 = .ok (.istore_n 3, 1) := by decide +kernel
theorem dX5_setOwner_36 : decode cX5_setOwner 36 = .ok (.aload_n 0, 1) := by decide +kernel
theorem dX5_setOwner_37 : decode cX5_setOwner 37 = .ok (.getfield 19, 3) := by decide +kernel
theorem dX5_setOwner_40 : decode cX5_setOwner 40 = .ok (.iload_n 1, 1) := by decide +kernel
theorem dX5_setOwner_41 : decode cX5_setOwner 41 = .ok (.iload_n 2, 1) := by decide +kernel
theorem dX5_setOwner_42 : decode cX5_setOwner 42 = .ok (.iastore, 1) := by decide +kernel
theorem dX5_setOwner_43 : decode cX5_setOwner 43 = .ok (.iload_n 3, 1) := by decide +kernel
theorem dX5_setOwner_44 : decode cX5_setOwner 44 = .ok (.ireturn, 1) := by decide +kernel
set_option maxRecDepth 20000 in
theorem ggX5_setInherits_X5_isFolder : GoodIn wsX5_setInherits wsX5_isFolder := goodIn_r _ [6, 7, 8, 9, 5, 10, 16, 17, 18, 19, 20, 21, 22, 23, 24, 25, 26, 27, 28, 29, 30, 31, 32, 33, 34, 35] (by decide +kernel) (by decide +kernel)
set_option maxRecDepth 20000 in
theorem gX5_setInherits_X5_isFolder : GoodIn wsX5_setInherits (wsV RX5 88 RX5 yX5_isFolder wsX5_isFolder) := goodIn_app (goodIn_of _ (by decide +kernel)) ggX5_setInherits_X5_isFolder
set_option maxRecDepth 20000 in
theorem ggX5_setInherits_X5_isFine : GoodIn wsX5_setInherits wsX5_isFine := goodIn_r _ [14, 15, 16, 17, 18, 19, 20, 21, 22, 23, 24, 25, 26, 27, 28, 29, 30, 31, 32, 33, 34, 35] (by decide +kernel) (by decide +kernel)
set_option maxRecDepth 20000 in
theorem gX5_setInherits_X5_isFine : GoodIn wsX5_setInherits (wsV RX5 82 RX5 yX5_isFine wsX5_isFine) := goodIn_app (goodIn_of _ (by decide +kernel)) ggX5_setInherits_X5_isFine
theorem dX5_setInherits_0 : decode cX5_setInherits 0 = .ok (.aload_n 0, 1) := by decide +kernel
theorem dX5_setInherits_1 : decode cX5_setInherits 1 = .ok (.aload_n 0, 1) := by decide +kernel
theorem dX5_setInherits_2 : decode cX5_setInherits 2 = .ok (.iload_n 1, 1) := by decide +kernel
theorem dX5_setInherits_3 : decode cX5_setInherits 3 = .ok (.invokevirtual 88, 3) := by decide +kernel
theorem dX5_setInherits_6 : decode cX5_setInherits 6 = .ok (.ifCond .eq 7, 3) := by decide +kernel
theorem dX5_setInherits_9 : decode cX5_setInherits 9 = .ok (.iconst 0, 1) := by decide +kernel
theorem dX5_setInherits_10 : decode cX5_setInherits 10 = .ok (.goto 4, 3) := by decide +kernel
theorem dX5_setInherits_13 : decode cX5_setInherits 13 = .ok (.iconst 1, 1) := by decide +kernel
theorem dX5_setInherits_14 : decode cX5_setInherits 14 = .ok (.invokevirtual 82, 3) := by decide +kernel
theorem dX5_setInherits_17 : decode cX5_setInherits 17 = .ok (.ifCond .ne 5, 3) := by decide +kernel
theorem dX5_setInherits_20 : decode cX5_setInherits 20 = .ok (.iconst 0, 1) := by decide +kernel
theorem dX5_setInherits_21 : decode cX5_setInherits 21 = .ok (.ireturn, 1) := by decide +kernel
theorem dX5_setInherits_22 : decode cX5_setInherits 22 = .ok (.aload_n 0, 1) := by decide +kernel
theorem dX5_setInherits_23 : decode cX5_setInherits 23 = .ok (.getfield 22, 3) := by decide +kernel
theorem dX5_setInherits_26 : decode cX5_setInherits 26 = .ok (.iload_n 1, 1) := by decide +kernel
theorem dX5_setInherits_27 : decode cX5_setInherits 27 = .ok (.baload, 1) := by decide +kernel
theorem dX5_setInherits_28 : decode cX5_setInherits 28 = .ok (.istore_n 3, 1) := by decide +kernel
theorem dX5_setInherits_29 : decode cX5_setInherits 29 = .ok (.aload_n 0, 1) := by decide +kernel
theorem dX5_setInherits_30 : decode cX5_setInherits 30 = .ok (.getfield 22, 3) := by decide +kernel
theorem dX5_setInherits_33 : decode cX5_setInherits 33 = .ok (.iload_n 1, 1) := by decide +kernel
theorem dX5_setInherits_34 : decode cX5_setInherits 34 = .ok (.iload_n 2, 1) := by decide +kernel
theorem dX5_setInherits_35 : decode cX5_setInherits 35 = .ok (.bastore, 1) := by decide +kernel
theorem dX5_setInherits_36 : decode cX5_setInherits 36 = .ok (.iload_n 3, 1) := by decide +kernel
theorem dX5_setInherits_37 : decode cX5_setInherits 37 = .ok (.ireturn, 1) := by decide +kernel
set_option maxRecDepth 20000 in
theorem ggX5_allow_X5_isFolder : GoodIn wsX5_allow wsX5_isFolder := goodIn_r _ [10, 11, 12, 13, 9, 14, 20, 21, 22, 23, 24, 25, 26, 27, 28, 29, 30, 31, 32, 33, 34, 35, 36, 37, 38, 39] (by decide +kernel) (by decide +kernel)
set_option maxRecDepth 20000 in
theorem gX5_allow_X5_isFolder : GoodIn wsX5_allow (wsV RX5 88 RX5 yX5_isFolder wsX5_isFolder) := goodIn_app (goodIn_of _ (by decide +kernel)) ggX5_allow_X5_isFolder
set_option maxRecDepth 20000 in
theorem ggX5_allow_X5_in : GoodIn wsX5_allow wsX5_in := goodIn_r _ [14] (by decide +kernel) (by decide +kernel)
set_option maxRecDepth 20000 in
theorem gX5_allow_X5_in : GoodIn wsX5_allow (va_wsS RX5 63 yX5_in wsX5_in) := goodIn_app (goodIn_of _ (by decide +kernel)) ggX5_allow_X5_in
set_option maxRecDepth 20000 in
theorem ggX5_allow_X5_isFine : GoodIn wsX5_allow wsX5_isFine := goodIn_r _ [18, 19, 20, 21, 22, 23, 24, 25, 26, 27, 28, 29, 30, 31, 32, 33, 34, 35, 36, 37, 38, 39] (by decide +kernel) (by decide +kernel)
set_option maxRecDepth 20000 in
theorem gX5_allow_X5_isFine : GoodIn wsX5_allow (wsV RX5 82 RX5 yX5_isFine wsX5_isFine) := goodIn_app (goodIn_of _ (by decide +kernel)) ggX5_allow_X5_isFine
theorem dX5_allow_0 : decode cX5_allow 0 = .ok (.aload_n 0, 1) := by decide +kernel
theorem dX5_allow_1 : decode cX5_allow 1 = .ok (.iload_n 1, 1) := by decide +kernel
theorem dX5_allow_2 : decode cX5_allow 2 = .ok (.invokevirtual 88, 3) := by decide +kernel
theorem dX5_allow_5 : decode cX5_allow 5 = .ok (.ifCond .eq 13, 3) := by decide +kernel
theorem dX5_allow_8 : decode cX5_allow 8 = .ok (.iload_n 2, 1) := by decide +kernel
theorem dX5_allow_9 : decode cX5_allow 9 = .ok (.iconst 0, 1) := by decide +kernel
theorem dX5_allow_10 : decode cX5_allow 10 = .ok (.bipush 13, 2) := by decide +kernel
theorem dX5_allow_12 : decode cX5_allow 12 = .ok (.invokestatic 63, 3) := by decide +kernel
theorem dX5_allow_15 : decode cX5_allow 15 = .ok (.ifCond .ne 7, 3) := by decide +kernel
theorem dX5_allow_18 : decode cX5_allow 18 = .ok (.iconst 1, 1) := by decide +kernel
theorem dX5_allow_19 : decode cX5_allow 19 = .ok (.goto 29, 3) := by decide +kernel
theorem dX5_allow_22 : decode cX5_allow 22 = .ok (.iload 4, 2) := by decide +kernel
theorem dX5_allow_24 : decode cX5_allow 24 = .ok (.iconst 1, 1) := by decide +kernel
theorem dX5_allow_25 : decode cX5_allow 25 = .ok (.bipush 7, 2) := by decide +kernel
theorem dX5_allow_27 : decode cX5_allow 27 = .ok (.invokestatic 63, 3) := by decide +kernel
theorem dX5_allow_30 : decode cX5_allow 30 = .ok (.ifCond .eq 13, 3) := by decide +kernel
theorem dX5_allow_33 : decode cX5_allow 33 = .ok (.iload 5, 2) := by decide +kernel
theorem dX5_allow_35 : decode cX5_allow 35 = .ok (.iconst 0, 1) := by decide +kernel
theorem dX5_allow_36 : decode cX5_allow 36 = .ok (.iconst 2, 1) := by decide +kernel
theorem dX5_allow_37 : decode cX5_allow 37 = .ok (.invokestatic 63, 3) := by decide +kernel
theorem dX5_allow_40 : decode cX5_allow 40 = .ok (.ifCond .ne 7, 3) := by decide +kernel
theorem dX5_allow_43 : decode cX5_allow 43 = .ok (.iconst 2, 1) := by decide +kernel
theorem dX5_allow_44 : decode cX5_allow 44 = .ok (.goto 4, 3) := by decide +kernel
theorem dX5_allow_47 : decode cX5_allow 47 = .ok (.iconst 0, 1) := by decide +kernel
theorem dX5_allow_48 : decode cX5_allow 48 = .ok (.istore 6, 2) := by decide +kernel
theorem dX5_allow_50 : decode cX5_allow 50 = .ok (.aload_n 0, 1) := by decide +kernel
theorem dX5_allow_51 : decode cX5_allow 51 = .ok (.iload 6, 2) := by decide +kernel
theorem dX5_allow_53 : decode cX5_allow 53 = .ok (.ifCond .ne 18, 3) := by decide +kernel
theorem dX5_allow_56 : decode cX5_allow 56 = .ok (.aload_n 0, 1) := by decide +kernel
theorem dX5_allow_57 : decode cX5_allow 57 = .ok (.getfield 26, 3) := by decide +kernel
theorem dX5_allow_60 : decode cX5_allow 60 = .ok (.iload_n 1, 1) := by decide +kernel
theorem dX5_allow_61 : decode cX5_allow 61 = .ok (.iaload, 1) := by decide +kernel
theorem dX5_allow_62 : decode cX5_allow 62 = .ok (.bipush 6, 2) := by decide +kernel
theorem dX5_allow_64 : decode cX5_allow 64 = .ok (.if_icmp .ne 7, 3) := by decide +kernel
theorem dX5_allow_67 : decode cX5_allow 67 = .ok (.iconst 3, 1) := by decide +kernel
theorem dX5_allow_68 : decode cX5_allow 68 = .ok (.goto 5, 3) := by decide +kernel
theorem dX5_allow_71 : decode cX5_allow 71 = .ok (.iload 6, 2) := by decide +kernel
theorem dX5_allow_73 : decode cX5_allow 73 = .ok (.invokevirtual 82, 3) := by decide +kernel
theorem dX5_allow_76 : decode cX5_allow 76 = .ok (.ifCond .ne 5, 3) := by decide +kernel
theorem dX5_allow_79 : decode cX5_allow 79 = .ok (.iconst 0, 1) := by decide +kernel
theorem dX5_allow_80 : decode cX5_allow 80 = .ok (.ireturn, 1) := by decide +kernel
theorem dX5_allow_81 : decode cX5_allow 81 = .ok (.bipush 6, 2) := by decide +kernel
theorem dX5_allow_83 : decode cX5_allow 83 = .ok (.iload_n 1, 1) := by decide +kernel
theorem dX5_allow_84 : decode cX5_allow 84 = .ok (.imul, 1) := by decide +kernel
theorem dX5_allow_85 : decode cX5_allow 85 = .ok (.aload_n 0, 1) := by decide +kernel
theorem dX5_allow_86 : decode cX5_allow 86 = .ok (.getfield 26, 3) := by decide +kernel
theorem dX5_allow_89 : decode cX5_allow 89 = .ok (.iload_n 1, 1) := by decide +kernel
theorem dX5_allow_90 : decode cX5_allow 90 = .ok (.iaload, 1) := by decide +kernel
theorem dX5_allow_91 : decode cX5_allow 91 = .ok (.iadd, 1) := by decide +kernel
theorem dX5_allow_92 : decode cX5_allow 92 = .ok (.istore 7, 2) := by decide +kernel
theorem dX5_allow_94 : decode cX5_allow 94 = .ok (.aload_n 0, 1) := by decide +kernel
theorem dX5_allow_95 : decode cX5_allow 95 = .ok (.getfield 33, 3) := by decide +kernel
theorem dX5_allow_98 : decode cX5_allow 98 = .ok (.iload 7, 2) := by decide +kernel
theorem dX5_allow_100 : decode cX5_allow 100 = .ok (.iload_n 2, 1) := by decide +kernel
theorem dX5_allow_101 : decode cX5_allow 101 = .ok (.iastore, 1) := by decide +kernel
theorem dX5_allow_102 : decode cX5_allow 102 = .ok (.aload_n 0, 1) := by decide +kernel
theorem dX5_allow_103 : decode cX5_allow 103 = .ok (.getfield 36, 3) := by decide +kernel
theorem dX5_allow_106 : decode cX5_allow 106 = .ok (.iload 7, 2) := by decide +kernel
theorem dX5_allow_108 : decode cX5_allow 108 = .ok (.iload_n 3, 1) := by decide +kernel
theorem dX5_allow_109 : decode cX5_allow 109 = .ok (.bastore, 1) := by decide +kernel
theorem dX5_allow_110 : decode cX5_allow 110 = .ok (.aload_n 0, 1) := by decide +kernel
theorem dX5_allow_111 : decode cX5_allow 111 = .ok (.getfield 39, 3) := by decide +kernel
theorem dX5_allow_114 : decode cX5_allow 114 = .ok (.iload 7, 2) := by decide +kernel
theorem dX5_allow_116 : decode cX5_allow 116 = .ok (.iload 4, 2) := by decide +kernel
theorem dX5_allow_118 : decode cX5_allow 118 = .ok (.iastore, 1) := by decide +kernel
theorem dX5_allow_119 : decode cX5_allow 119 = .ok (.aload_n 0, 1) := by decide +kernel
theorem dX5_allow_120 : decode cX5_allow 120 = .ok (.getfield 42, 3) := by decide +kernel
theorem dX5_allow_123 : decode cX5_allow 123 = .ok (.iload 7, 2) := by decide +kernel
theorem dX5_allow_125 : decode cX5_allow 125 = .ok (.iload 5, 2) := by decide +kernel
theorem dX5_allow_127 : decode cX5_allow 127 = .ok (.iastore, 1) := by decide +kernel
theorem dX5_allow_128 : decode cX5_allow 128 = .ok (.aload_n 0, 1) := by decide +kernel
theorem dX5_allow_129 : decode cX5_allow 129 = .ok (.getfield 26, 3) := by decide +kernel
theorem dX5_allow_132 : decode cX5_allow 132 = .ok (.iload_n 1, 1) := by decide +kernel
theorem dX5_allow_133 : decode cX5_allow 133 = .ok (.dup2, 1) := by decide +kernel
theorem dX5_allow_134 : decode cX5_allow 134 = .ok (.iaload, 1) := by decide +kernel
theorem dX5_allow_135 : decode cX5_allow 135 = .ok (.iconst 1, 1) := by decide +kernel
theorem dX5_allow_136 : decode cX5_allow 136 = .ok (.iadd, 1) := by decide +kernel
theorem dX5_allow_137 : decode cX5_allow 137 = .ok (.iastore, 1) := by decide +kernel
theorem dX5_allow_138 : decode cX5_allow 138 = .ok (.aload_n 0, 1) := by decide +kernel
theorem dX5_allow_139 : decode cX5_allow 139 = .ok (.getfield 26, 3) := by decide +kernel
theorem dX5_allow_142 : decode cX5_allow 142 = .ok (.iload_n 1, 1) := by decide +kernel
theorem dX5_allow_143 : decode cX5_allow 143 = .ok (.iaload, 1) := by decide +kernel
theorem dX5_allow_144 : decode cX5_allow 144 = .ok (.ireturn, 1) := by decide +kernel
set_option maxRecDepth 20000 in
theorem ggX5_drop_X5_isFolder : GoodIn wsX5_drop wsX5_isFolder := goodIn_r _ [10, 11, 12, 13, 9, 14, 20, 21, 22, 23, 24, 25, 26, 27, 28, 29, 30, 31, 32, 33, 34, 35, 36, 37, 38, 39] (by decide +kernel) (by decide +kernel)
set_option maxRecDepth 20000 in
theorem gX5_drop_X5_isFolder : GoodIn wsX5_drop (wsV RX5 88 RX5 yX5_isFolder wsX5_isFolder) := goodIn_app (goodIn_of _ (by decide +kernel)) ggX5_drop_X5_isFolder
set_option maxRecDepth 20000 in
theorem ggX5_drop_X5_in : GoodIn wsX5_drop wsX5_in := goodIn_r _ [14] (by decide +kernel) (by decide +kernel)
set_option maxRecDepth 20000 in
theorem gX5_drop_X5_in : GoodIn wsX5_drop (va_wsS RX5 63 yX5_in wsX5_in) := goodIn_app (goodIn_of _ (by decide +kernel)) ggX5_drop_X5_in
set_option maxRecDepth 20000 in
theorem ggX5_drop_X5_isFine : GoodIn wsX5_drop wsX5_isFine := goodIn_r _ [18, 19, 20, 21, 22, 23, 24, 25, 26, 27, 28, 29, 30, 31, 32, 33, 34, 35, 36, 37, 38, 39] (by decide +kernel) (by decide +kernel)
set_option maxRecDepth 20000 in
theorem gX5_drop_X5_isFine : GoodIn wsX5_drop (wsV RX5 82 RX5 yX5_isFine wsX5_isFine) := goodIn_app (goodIn_of _ (by decide +kernel)) ggX5_drop_X5_isFine
theorem dX5_drop_0 : decode cX5_drop 0 = .ok (.aload_n 0, 1) := by decide +kernel
theorem dX5_drop_1 : decode cX5_drop 1 = .ok (.aload_n 0, 1) := by decide +kernel
theorem dX5_drop_2 : decode cX5_drop 2 = .ok (.iload_n 1, 1) := by decide +kernel
theorem dX5_drop_3 : decode cX5_drop 3 = .ok (.invokevirtual 88, 3) := by decide +kernel
theorem dX5_drop_6 : decode cX5_drop 6 = .ok (.ifCond .eq 23, 3) := by decide +kernel
theorem dX5_drop_9 : decode cX5_drop 9 = .ok (.iload_n 2, 1) := by decide +kernel
theorem dX5_drop_10 : decode cX5_drop 10 = .ok (.iconst 0, 1) := by decide +kernel
theorem dX5_drop_11 : decode cX5_drop 11 = .ok (.aload_n 0, 1) := by decide +kernel
theorem dX5_drop_12 : decode cX5_drop 12 = .ok (.getfield 26, 3) := by decide +kernel
theorem dX5_drop_15 : decode cX5_drop 15 = .ok (.iload_n 1, 1) := by decide +kernel
theorem dX5_drop_16 : decode cX5_drop 16 = .ok (.iaload, 1) := by decide +kernel
theorem dX5_drop_17 : decode cX5_drop 17 = .ok (.iconst 1, 1) := by decide +kernel
theorem dX5_drop_18 : decode cX5_drop 18 = .ok (.isub, 1) := by decide +kernel
theorem dX5_drop_19 : decode cX5_drop 19 = .ok (.invokestatic 63, 3) := by decide +kernel
theorem dX5_drop_22 : decode cX5_drop 22 = .ok (.ifCond .eq 7, 3) := by decide +kernel
theorem dX5_drop_25 : decode cX5_drop 25 = .ok (.iconst 0, 1) := by decide +kernel
theorem dX5_drop_26 : decode cX5_drop 26 = .ok (.goto 4, 3) := by decide +kernel
theorem dX5_drop_29 : decode cX5_drop 29 = .ok (.iconst 1, 1) := by decide +kernel
theorem dX5_drop_30 : decode cX5_drop 30 = .ok (.invokevirtual 82, 3) := by decide +kernel
theorem dX5_drop_33 : decode cX5_drop 33 = .ok (.ifCond .ne 5, 3) := by decide +kernel
theorem dX5_drop_36 : decode cX5_drop 36 = .ok (.iconst 0, 1) := by decide +kernel
theorem dX5_drop_37 : decode cX5_drop 37 = .ok (.ireturn, 1) := by decide +kernel
theorem dX5_drop_38 : decode cX5_drop 38 = .ok (.aload_n 0, 1) := by decide +kernel
theorem dX5_drop_39 : decode cX5_drop 39 = .ok (.getfield 39, 3) := by decide +kernel
theorem dX5_drop_42 : decode cX5_drop 42 = .ok (.bipush 6, 2) := by decide +kernel
theorem dX5_drop_44 : decode cX5_drop 44 = .ok (.iload_n 1, 1) := by decide +kernel
theorem dX5_drop_45 : decode cX5_drop 45 = .ok (.imul, 1) := by decide +kernel
theorem dX5_drop_46 : decode cX5_drop 46 = .ok (.iload_n 2, 1) := by decide +kernel
theorem dX5_drop_47 : decode cX5_drop 47 = .ok (.iadd, 1) := by decide +kernel
theorem dX5_drop_48 : decode cX5_drop 48 = .ok (.iaload, 1) := by decide +kernel
theorem dX5_drop_49 : decode cX5_drop 49 = .ok (.istore_n 3, 1) := by decide +kernel
theorem dX5_drop_50 : decode cX5_drop 50 = .ok (.aload_n 0, 1) := by decide +kernel
theorem dX5_drop_51 : decode cX5_drop 51 = .ok (.getfield 26, 3) := by decide +kernel
theorem dX5_drop_54 : decode cX5_drop 54 = .ok (.iload_n 1, 1) := by decide +kernel
theorem dX5_drop_55 : decode cX5_drop 55 = .ok (.dup2, 1) := by decide +kernel
theorem dX5_drop_56 : decode cX5_drop 56 = .ok (.iaload, 1) := by decide +kernel
theorem dX5_drop_57 : decode cX5_drop 57 = .ok (.iconst 1, 1) := by decide +kernel
theorem dX5_drop_58 : decode cX5_drop 58 = .ok (.isub, 1) := by decide +kernel
theorem dX5_drop_59 : decode cX5_drop 59 = .ok (.iastore, 1) := by decide +kernel
theorem dX5_drop_60 : decode cX5_drop 60 = .ok (.bipush 6, 2) := by decide +kernel
theorem dX5_drop_62 : decode cX5_drop 62 = .ok (.iload_n 1, 1) := by decide +kernel
theorem dX5_drop_63 : decode cX5_drop 63 = .ok (.imul, 1) := by decide +kernel
theorem dX5_drop_64 : decode cX5_drop 64 = .ok (.iload_n 2, 1) := by decide +kernel
theorem dX5_drop_65 : decode cX5_drop 65 = .ok (.iadd, 1) := by decide +kernel
theorem dX5_drop_66 : decode cX5_drop 66 = .ok (.istore 4, 2) := by decide +kernel
theorem dX5_drop_68 : decode cX5_drop 68 = .ok (.iload 4, 2) := by decide +kernel
theorem dX5_drop_70 : decode cX5_drop 70 = .ok (.bipush 6, 2) := by decide +kernel
theorem dX5_drop_72 : decode cX5_drop 72 = .ok (.iload_n 1, 1) := by decide +kernel
theorem dX5_drop_73 : decode cX5_drop 73 = .ok (.imul, 1) := by decide +kernel
theorem dX5_drop_74 : decode cX5_drop 74 = .ok (.aload_n 0, 1) := by decide +kernel
theorem dX5_drop_75 : decode cX5_drop 75 = .ok (.getfield 26, 3) := by decide +kernel
theorem dX5_drop_78 : decode cX5_drop 78 = .ok (.iload_n 1, 1) := by decide +kernel
theorem dX5_drop_79 : decode cX5_drop 79 = .ok (.iaload, 1) := by decide +kernel
theorem dX5_drop_80 : decode cX5_drop 80 = .ok (.iadd, 1) := by decide +kernel
theorem dX5_drop_81 : decode cX5_drop 81 = .ok (.if_icmp .ge 73, 3) := by decide +kernel
theorem dX5_drop_84 : decode cX5_drop 84 = .ok (.aload_n 0, 1) := by decide +kernel
theorem dX5_drop_85 : decode cX5_drop 85 = .ok (.getfield 33, 3) := by decide +kernel
theorem dX5_drop_88 : decode cX5_drop 88 = .ok (.iload 4, 2) := by decide +kernel
theorem dX5_drop_90 : decode cX5_drop 90 = .ok (.aload_n 0, 1) := by decide +kernel
theorem dX5_drop_91 : decode cX5_drop 91 = .ok (.getfield 33, 3) := by decide +kernel
theorem dX5_drop_94 : decode cX5_drop 94 = .ok (.iload 4, 2) := by decide +kernel
theorem dX5_drop_96 : decode cX5_drop 96 = .ok (.iconst 1, 1) := by decide +kernel
theorem dX5_drop_97 : decode cX5_drop 97 = .ok (.iadd, 1) := by decide +kernel
theorem dX5_drop_98 : decode cX5_drop 98 = .ok (.iaload, 1) := by decide +kernel
theorem dX5_drop_99 : decode cX5_drop 99 = .ok (.iastore, 1) := by decide +kernel
theorem dX5_drop_100 : decode cX5_drop 100 = .ok (.aload_n 0, 1) := by decide +kernel
theorem dX5_drop_101 : decode cX5_drop 101 = .ok (.getfield 36, 3) := by decide +kernel
theorem dX5_drop_104 : decode cX5_drop 104 = .ok (.iload 4, 2) := by decide +kernel
theorem dX5_drop_106 : decode cX5_drop 106 = .ok (.aload_n 0, 1) := by decide +kernel
theorem dX5_drop_107 : decode cX5_drop 107 = .ok (.getfield 36, 3) := by decide +kernel
theorem dX5_drop_110 : decode cX5_drop 110 = .ok (.iload 4, 2) := by decide +kernel
theorem dX5_drop_112 : decode cX5_drop 112 = .ok (.iconst 1, 1) := by decide +kernel
theorem dX5_drop_113 : decode cX5_drop 113 = .ok (.iadd, 1) := by decide +kernel
theorem dX5_drop_114 : decode cX5_drop 114 = .ok (.baload, 1) := by decide +kernel
theorem dX5_drop_115 : decode cX5_drop 115 = .ok (.bastore, 1) := by decide +kernel
theorem dX5_drop_116 : decode cX5_drop 116 = .ok (.aload_n 0, 1) := by decide +kernel
theorem dX5_drop_117 : decode cX5_drop 117 = .ok (.getfield 39, 3) := by decide +kernel
theorem dX5_drop_120 : decode cX5_drop 120 = .ok (.iload 4, 2) := by decide +kernel
theorem dX5_drop_122 : decode cX5_drop 122 = .ok (.aload_n 0, 1) := by decide +kernel
theorem dX5_drop_123 : decode cX5_drop 123 = .ok (.getfield 39, 3) := by decide +kernel
theorem dX5_drop_126 : decode cX5_drop 126 = .ok (.iload 4, 2) := by decide +kernel
theorem dX5_drop_128 : decode cX5_drop 128 = .ok (.iconst 1, 1) := by decide +kernel
theorem dX5_drop_129 : decode cX5_drop 129 = .ok (.iadd, 1) := by decide +kernel
theorem dX5_drop_130 : decode cX5_drop 130 = .ok (.iaload, 1) := by decide +kernel
theorem dX5_drop_131 : decode cX5_drop 131 = .ok (.iastore, 1) := by decide +kernel
theorem dX5_drop_132 : decode cX5_drop 132 = .ok (.aload_n 0, 1) := by decide +kernel
theorem dX5_drop_133 : decode cX5_drop 133 = .ok (.getfield 42, 3) := by decide +kernel
theorem dX5_drop_136 : decode cX5_drop 136 = .ok (.iload 4, 2) := by decide +kernel
theorem dX5_drop_138 : decode cX5_drop 138 = .ok (.aload_n 0, 1) := by decide +kernel
theorem dX5_drop_139 : decode cX5_drop 139 = .ok (.getfield 42, 3) := by decide +kernel
theorem dX5_drop_142 : decode cX5_drop 142 = .ok (.iload 4, 2) := by decide +kernel
theorem dX5_drop_144 : decode cX5_drop 144 = .ok (.iconst 1, 1) := by decide +kernel
theorem dX5_drop_145 : decode cX5_drop 145 = .ok (.iadd, 1) := by decide +kernel
theorem dX5_drop_146 : decode cX5_drop 146 = .ok (.iaload, 1) := by decide +kernel
theorem dX5_drop_147 : decode cX5_drop 147 = .ok (.iastore, 1) := by decide +kernel
theorem dX5_drop_148 : decode cX5_drop 148 = .ok (.iinc 4 1, 3) := by decide +kernel
theorem dX5_drop_151 : decode cX5_drop 151 = .ok (.goto (-83), 3) := by decide +kernel
theorem dX5_drop_154 : decode cX5_drop 154 = .ok (.iload_n 3, 1) := by decide +kernel
theorem dX5_drop_155 : decode cX5_drop 155 = .ok (.ireturn, 1) := by decide +kernel
theorem dX5_folders_0 : decode cX5_folders 0 = .ok (.aload_n 0, 1) := by decide +kernel
theorem dX5_folders_1 : decode cX5_folders 1 = .ok (.iconst 0, 1) := by decide +kernel
theorem dX5_folders_2 : decode cX5_folders 2 = .ok (.putfield 60, 3) := by decide +kernel
theorem dX5_folders_5 : decode cX5_folders 5 = .ok (.aload_n 0, 1) := by decide +kernel
theorem dX5_folders_6 : decode cX5_folders 6 = .ok (.getfield 29, 3) := by decide +kernel
theorem dX5_folders_9 : decode cX5_folders 9 = .ok (.ireturn, 1) := by decide +kernel
set_option maxRecDepth 20000 in
theorem ggX5_isFor_X5_membersOf : GoodIn wsX5_isFor wsX5_membersOf := goodIn_r _ [6, 7, 8, 9, 10, 5, 11, 12, 13, 14, 15, 16, 17, 18, 19, 20, 21, 22, 23, 24, 25, 26, 27, 28, 29, 30, 31, 32, 33, 34, 35] (by decide +kernel) (by decide +kernel)
set_option maxRecDepth 20000 in
theorem gX5_isFor_X5_membersOf : GoodIn wsX5_isFor (wsV RX5 85 RX5 yX5_membersOf wsX5_membersOf) := goodIn_app (goodIn_of _ (by decide +kernel)) ggX5_isFor_X5_membersOf
set_option maxRecDepth 20000 in
theorem ggX5_isFor_X5_has : GoodIn wsX5_isFor wsX5_has := goodIn_r _ [15] (by decide +kernel) (by decide +kernel)
set_option maxRecDepth 20000 in
theorem gX5_isFor_X5_has : GoodIn wsX5_isFor (va_wsS RX5 67 yX5_has wsX5_has) := goodIn_app (goodIn_of _ (by decide +kernel)) ggX5_isFor_X5_has
theorem dX5_isFor_0 : decode cX5_isFor 0 = .ok (.aload_n 0, 1) := by decide +kernel
theorem dX5_isFor_1 : decode cX5_isFor 1 = .ok (.getfield 33, 3) := by decide +kernel
theorem dX5_isFor_4 : decode cX5_isFor 4 = .ok (.iload_n 1, 1) := by decide +kernel
theorem dX5_isFor_5 : decode cX5_isFor 5 = .ok (.iaload, 1) := by decide +kernel
theorem dX5_isFor_6 : decode cX5_isFor 6 = .ok (.bipush 8, 2) := by decide +kernel
theorem dX5_isFor_8 : decode cX5_isFor 8 = .ok (.if_icmp .ge 21, 3) := by decide +kernel
theorem dX5_isFor_11 : decode cX5_isFor 11 = .ok (.aload_n 0, 1) := by decide +kernel
theorem dX5_isFor_12 : decode cX5_isFor 12 = .ok (.getfield 33, 3) := by decide +kernel
theorem dX5_isFor_15 : decode cX5_isFor 15 = .ok (.iload_n 1, 1) := by decide +kernel
theorem dX5_isFor_16 : decode cX5_isFor 16 = .ok (.iaload, 1) := by decide +kernel
theorem dX5_isFor_17 : decode cX5_isFor 17 = .ok (.iload_n 2, 1) := by decide +kernel
theorem dX5_isFor_18 : decode cX5_isFor 18 = .ok (.if_icmp .ne 7, 3) := by decide +kernel
theorem dX5_isFor_21 : decode cX5_isFor 21 = .ok (.iconst 1, 1) := by decide +kernel
theorem dX5_isFor_22 : decode cX5_isFor 22 = .ok (.goto 24, 3) := by decide +kernel
theorem dX5_isFor_25 : decode cX5_isFor 25 = .ok (.iconst 0, 1) := by decide +kernel
theorem dX5_isFor_26 : decode cX5_isFor 26 = .ok (.goto 20, 3) := by decide +kernel
theorem dX5_isFor_29 : decode cX5_isFor 29 = .ok (.aload_n 0, 1) := by decide +kernel
theorem dX5_isFor_30 : decode cX5_isFor 30 = .ok (.aload_n 0, 1) := by decide +kernel
theorem dX5_isFor_31 : decode cX5_isFor 31 = .ok (.getfield 33, 3) := by decide +kernel
theorem dX5_isFor_34 : decode cX5_isFor 34 = .ok (.iload_n 1, 1) := by decide +kernel
theorem dX5_isFor_35 : decode cX5_isFor 35 = .ok (.iaload, 1) := by decide +kernel
theorem dX5_isFor_36 : decode cX5_isFor 36 = .ok (.bipush 8, 2) := by decide +kernel
theorem dX5_isFor_38 : decode cX5_isFor 38 = .ok (.isub, 1) := by decide +kernel
theorem dX5_isFor_39 : decode cX5_isFor 39 = .ok (.invokevirtual 85, 3) := by decide +kernel
theorem dX5_isFor_42 : decode cX5_isFor 42 = .ok (.iload_n 2, 1) := by decide +kernel
theorem dX5_isFor_43 : decode cX5_isFor 43 = .ok (.invokestatic 67, 3) := by decide +kernel
theorem dX5_isFor_46 : decode cX5_isFor 46 = .ok (.ireturn, 1) := by decide +kernel
set_option maxRecDepth 20000 in
theorem ggX5_rightsOf_X5_isFor : GoodIn wsX5_rightsOf wsX5_isFor := goodIn_r _ [12, 13, 14, 15, 16, 11, 17, 18, 19, 20, 21, 22, 23, 24, 25, 26, 27, 28, 29, 30, 31, 32, 33, 34, 35, 36, 37, 38, 39, 40, 41, 42, 43, 44, 45, 46] (by decide +kernel) (by decide +kernel)
set_option maxRecDepth 20000 in
theorem gX5_rightsOf_X5_isFor : GoodIn wsX5_rightsOf (wsV RX5 91 RX5 yX5_isFor wsX5_isFor) := goodIn_app (goodIn_of _ (by decide +kernel)) ggX5_rightsOf_X5_isFor
theorem dX5_rightsOf_0 : decode cX5_rightsOf 0 = .ok (.aload_n 0, 1) := by decide +kernel
theorem dX5_rightsOf_1 : decode cX5_rightsOf 1 = .ok (.getfield 19, 3) := by decide +kernel
theorem dX5_rightsOf_4 : decode cX5_rightsOf 4 = .ok (.iload_n 2, 1) := by decide +kernel
theorem dX5_rightsOf_5 : decode cX5_rightsOf 5 = .ok (.iaload, 1) := by decide +kernel
theorem dX5_rightsOf_6 : decode cX5_rightsOf 6 = .ok (.iload_n 1, 1) := by decide +kernel
theorem dX5_rightsOf_7 : decode cX5_rightsOf 7 = .ok (.if_icmp .ne 6, 3) := by decide +kernel
theorem dX5_rightsOf_10 : decode cX5_rightsOf 10 = .ok (.bipush 7, 2) := by decide +kernel
theorem dX5_rightsOf_12 : decode cX5_rightsOf 12 = .ok (.ireturn, 1) := by decide +kernel
theorem dX5_rightsOf_13 : decode cX5_rightsOf 13 = .ok (.iconst 0, 1) := by decide +kernel
theorem dX5_rightsOf_14 : decode cX5_rightsOf 14 = .ok (.istore_n 3, 1) := by decide +kernel
theorem dX5_rightsOf_15 : decode cX5_rightsOf 15 = .ok (.iconst 0, 1) := by decide +kernel
theorem dX5_rightsOf_16 : decode cX5_rightsOf 16 = .ok (.istore 4, 2) := by decide +kernel
theorem dX5_rightsOf_18 : decode cX5_rightsOf 18 = .ok (.iload_n 2, 1) := by decide +kernel
theorem dX5_rightsOf_19 : decode cX5_rightsOf 19 = .ok (.istore 5, 2) := by decide +kernel
theorem dX5_rightsOf_21 : decode cX5_rightsOf 21 = .ok (.iconst 1, 1) := by decide +kernel
theorem dX5_rightsOf_22 : decode cX5_rightsOf 22 = .ok (.istore 6, 2) := by decide +kernel
theorem dX5_rightsOf_24 : decode cX5_rightsOf 24 = .ok (.iload 6, 2) := by decide +kernel
theorem dX5_rightsOf_26 : decode cX5_rightsOf 26 = .ok (.ifCond .eq 182, 3) := by decide +kernel
theorem dX5_rightsOf_29 : decode cX5_rightsOf 29 = .ok (.bipush 6, 2) := by decide +kernel
theorem dX5_rightsOf_31 : decode cX5_rightsOf 31 = .ok (.iload 5, 2) := by decide +kernel
theorem dX5_rightsOf_33 : decode cX5_rightsOf 33 = .ok (.imul, 1) := by decide +kernel
theorem dX5_rightsOf_34 : decode cX5_rightsOf 34 = .ok (.istore 7, 2) := by decide +kernel
theorem dX5_rightsOf_36 : decode cX5_rightsOf 36 = .ok (.iload 7, 2) := by decide +kernel
theorem dX5_rightsOf_38 : decode cX5_rightsOf 38 = .ok (.bipush 6, 2) := by decide +kernel
theorem dX5_rightsOf_40 : decode cX5_rightsOf 40 = .ok (.iload 5, 2) := by decide +kernel
theorem dX5_rightsOf_42 : decode cX5_rightsOf 42 = .ok (.imul, 1) := by decide +kernel
theorem dX5_rightsOf_43 : decode cX5_rightsOf 43 = .ok (.aload_n 0, 1) := by decide +kernel
theorem dX5_rightsOf_44 : decode cX5_rightsOf 44 = .ok (.getfield 26, 3) := by decide +kernel
theorem dX5_rightsOf_47 : decode cX5_rightsOf 47 = .ok (.iload 5, 2) := by decide +kernel
theorem dX5_rightsOf_49 : decode cX5_rightsOf 49 = .ok (.iaload, 1) := by decide +kernel
theorem dX5_rightsOf_50 : decode cX5_rightsOf 50 = .ok (.iadd, 1) := by decide +kernel
theorem dX5_rightsOf_51 : decode cX5_rightsOf 51 = .ok (.if_icmp .ge 107, 3) := by decide +kernel
theorem dX5_rightsOf_54 : decode cX5_rightsOf 54 = .ok (.iload 5, 2) := by decide +kernel
theorem dX5_rightsOf_56 : decode cX5_rightsOf 56 = .ok (.iload_n 2, 1) := by decide +kernel
theorem dX5_rightsOf_57 : decode cX5_rightsOf 57 = .ok (.if_icmp .ne 22, 3) := by decide +kernel
theorem dX5_rightsOf_60 : decode cX5_rightsOf 60 = .ok (.aload_n 0, 1) := by decide +kernel
theorem dX5_rightsOf_61 : decode cX5_rightsOf 61 = .ok (.getfield 42, 3) := by decide +kernel
theorem dX5_rightsOf_64 : decode cX5_rightsOf 64 = .ok (.iload 7, 2) := by decide +kernel
theorem dX5_rightsOf_66 : decode cX5_rightsOf 66 = .ok (.iaload, 1) := by decide +kernel
theorem dX5_rightsOf_67 : decode cX5_rightsOf 67 = .ok (.iconst 1, 1) := by decide +kernel
theorem dX5_rightsOf_68 : decode cX5_rightsOf 68 = .ok (.if_icmp .eq 7, 3) := by decide +kernel
theorem dX5_rightsOf_71 : decode cX5_rightsOf 71 = .ok (.iconst 1, 1) := by decide +kernel
theorem dX5_rightsOf_72 : decode cX5_rightsOf 72 = .ok (.goto 22, 3) := by decide +kernel
theorem dX5_rightsOf_75 : decode cX5_rightsOf 75 = .ok (.iconst 0, 1) := by decide +kernel
theorem dX5_rightsOf_76 : decode cX5_rightsOf 76 = .ok (.goto 18, 3) := by decide +kernel
theorem dX5_rightsOf_79 : decode cX5_rightsOf 79 = .ok (.aload_n 0, 1) := by decide +kernel
theorem dX5_rightsOf_80 : decode cX5_rightsOf 80 = .ok (.getfield 42, 3) := by decide +kernel
theorem dX5_rightsOf_83 : decode cX5_rightsOf 83 = .ok (.iload 7, 2) := by decide +kernel
theorem dX5_rightsOf_85 : decode cX5_rightsOf 85 = .ok (.iaload, 1) := by decide +kernel
theorem dX5_rightsOf_86 : decode cX5_rightsOf 86 = .ok (.ifCond .eq 7, 3) := by decide +kernel
theorem dX5_rightsOf_89 : decode cX5_rightsOf 89 = .ok (.iconst 1, 1) := by decide +kernel
theorem dX5_rightsOf_90 : decode cX5_rightsOf 90 = .ok (.goto 4, 3) := by decide +kernel
theorem dX5_rightsOf_93 : decode cX5_rightsOf 93 = .ok (.iconst 0, 1) := by decide +kernel
theorem dX5_rightsOf_94 : decode cX5_rightsOf 94 = .ok (.istore 8, 2) := by decide +kernel
theorem dX5_rightsOf_96 : decode cX5_rightsOf 96 = .ok (.iload 8, 2) := by decide +kernel
theorem dX5_rightsOf_98 : decode cX5_rightsOf 98 = .ok (.ifCond .eq 54, 3) := by decide +kernel
theorem dX5_rightsOf_101 : decode cX5_rightsOf 101 = .ok (.aload_n 0, 1) := by decide +kernel
theorem dX5_rightsOf_102 : decode cX5_rightsOf 102 = .ok (.iload 7, 2) := by decide +kernel
theorem dX5_rightsOf_104 : decode cX5_rightsOf 104 = .ok (.iload_n 1, 1) := by decide +kernel
theorem dX5_rightsOf_105 : decode cX5_rightsOf 105 = .ok (.invokevirtual 91, 3) := by decide +kernel
theorem dX5_rightsOf_108 : decode cX5_rightsOf 108 = .ok (.ifCond .eq 44, 3) := by decide +kernel
theorem dX5_rightsOf_111 : decode cX5_rightsOf 111 = .ok (.iload_n 3, 1) := by decide +kernel
theorem dX5_rightsOf_112 : decode cX5_rightsOf 112 = .ok (.aload_n 0, 1) := by decide +kernel
theorem dX5_rightsOf_113 : decode cX5_rightsOf 113 = .ok (.getfield 36, 3) := by decide +kernel
theorem dX5_rightsOf_116 : decode cX5_rightsOf 116 = .ok (.iload 7, 2) := by decide +kernel
theorem dX5_rightsOf_118 : decode cX5_rightsOf 118 = .ok (.baload, 1) := by decide +kernel
theorem dX5_rightsOf_119 : decode cX5_rightsOf 119 = .ok (.ifCond .eq 18, 3) := by decide +kernel
theorem dX5_rightsOf_122 : decode cX5_rightsOf 122 = .ok (.aload_n 0, 1) := by decide +kernel
theorem dX5_rightsOf_123 : decode cX5_rightsOf 123 = .ok (.getfield 39, 3) := by decide +kernel
theorem dX5_rightsOf_126 : decode cX5_rightsOf 126 = .ok (.iload 7, 2) := by decide +kernel
theorem dX5_rightsOf_128 : decode cX5_rightsOf 128 = .ok (.iaload, 1) := by decide +kernel
theorem dX5_rightsOf_129 : decode cX5_rightsOf 129 = .ok (.iload 4, 2) := by decide +kernel
theorem dX5_rightsOf_131 : decode cX5_rightsOf 131 = .ok (.iconst (-1), 1) := by decide +kernel
theorem dX5_rightsOf_132 : decode cX5_rightsOf 132 = .ok (.ixor, 1) := by decide +kernel
theorem dX5_rightsOf_133 : decode cX5_rightsOf 133 = .ok (.iand, 1) := by decide +kernel
theorem dX5_rightsOf_134 : decode cX5_rightsOf 134 = .ok (.goto 4, 3) := by decide +kernel
theorem dX5_rightsOf_137 : decode cX5_rightsOf 137 = .ok (.iconst 0, 1) := by decide +kernel
theorem dX5_rightsOf_138 : decode cX5_rightsOf 138 = .ok (.ior, 1) := by decide +kernel
theorem dX5_rightsOf_139 : decode cX5_rightsOf 139 = .ok (.istore_n 3, 1) := by decide +kernel
theorem dX5_rightsOf_140 : decode cX5_rightsOf 140 = .ok (.iload 4, 2) := by decide +kernel
theorem dX5_rightsOf_142 : decode cX5_rightsOf 142 = .ok (.aload_n 0, 1) := by decide +kernel
theorem dX5_rightsOf_143 : decode cX5_rightsOf 143 = .ok (.getfield 39, 3) := by decide +kernel
theorem dX5_rightsOf_146 : decode cX5_rightsOf 146 = .ok (.iload 7, 2) := by decide +kernel
theorem dX5_rightsOf_148 : decode cX5_rightsOf 148 = .ok (.iaload, 1) := by decide +kernel
theorem dX5_rightsOf_149 : decode cX5_rightsOf 149 = .ok (.ior, 1) := by decide +kernel
theorem dX5_rightsOf_150 : decode cX5_rightsOf 150 = .ok (.istore 4, 2) := by decide +kernel
theorem dX5_rightsOf_152 : decode cX5_rightsOf 152 = .ok (.iinc 7 1, 3) := by decide +kernel
theorem dX5_rightsOf_155 : decode cX5_rightsOf 155 = .ok (.goto (-119), 3) := by decide +kernel
theorem dX5_rightsOf_158 : decode cX5_rightsOf 158 = .ok (.aload_n 0, 1) := by decide +kernel
theorem dX5_rightsOf_159 : decode cX5_rightsOf 159 = .ok (.getfield 22, 3) := by decide +kernel
theorem dX5_rightsOf_162 : decode cX5_rightsOf 162 = .ok (.iload 5, 2) := by decide +kernel
theorem dX5_rightsOf_164 : decode cX5_rightsOf 164 = .ok (.baload, 1) := by decide +kernel
theorem dX5_rightsOf_165 : decode cX5_rightsOf 165 = .ok (.ifCond .eq 18, 3) := by decide +kernel
theorem dX5_rightsOf_168 : decode cX5_rightsOf 168 = .ok (.aload_n 0, 1) := by decide +kernel
theorem dX5_rightsOf_169 : decode cX5_rightsOf 169 = .ok (.getfield 16, 3) := by decide +kernel
theorem dX5_rightsOf_172 : decode cX5_rightsOf 172 = .ok (.iload 5, 2) := by decide +kernel
theorem dX5_rightsOf_174 : decode cX5_rightsOf 174 = .ok (.iaload, 1) := by decide +kernel
theorem dX5_rightsOf_175 : decode cX5_rightsOf 175 = .ok (.iconst (-1), 1) := by decide +kernel
theorem dX5_rightsOf_176 : decode cX5_rightsOf 176 = .ok (.if_icmp .eq 7, 3) := by decide +kernel
theorem dX5_rightsOf_179 : decode cX5_rightsOf 179 = .ok (.iconst 1, 1) := by decide +kernel
theorem dX5_rightsOf_180 : decode cX5_rightsOf 180 = .ok (.goto 4, 3) := by decide +kernel
theorem dX5_rightsOf_183 : decode cX5_rightsOf 183 = .ok (.iconst 0, 1) := by decide +kernel
theorem dX5_rightsOf_184 : decode cX5_rightsOf 184 = .ok (.istore 6, 2) := by decide +kernel
theorem dX5_rightsOf_186 : decode cX5_rightsOf 186 = .ok (.iload 6, 2) := by decide +kernel
theorem dX5_rightsOf_188 : decode cX5_rightsOf 188 = .ok (.ifCond .eq 13, 3) := by decide +kernel
theorem dX5_rightsOf_191 : decode cX5_rightsOf 191 = .ok (.aload_n 0, 1) := by decide +kernel
theorem dX5_rightsOf_192 : decode cX5_rightsOf 192 = .ok (.getfield 16, 3) := by decide +kernel
theorem dX5_rightsOf_195 : decode cX5_rightsOf 195 = .ok (.iload 5, 2) := by decide +kernel
theorem dX5_rightsOf_197 : decode cX5_rightsOf 197 = .ok (.iaload, 1) := by decide +kernel
theorem dX5_rightsOf_198 : decode cX5_rightsOf 198 = .ok (.goto 5, 3) := by decide +kernel
theorem dX5_rightsOf_201 : decode cX5_rightsOf 201 = .ok (.iload 5, 2) := by decide +kernel
theorem dX5_rightsOf_203 : decode cX5_rightsOf 203 = .ok (.istore 5, 2) := by decide +kernel
theorem dX5_rightsOf_205 : decode cX5_rightsOf 205 = .ok (.goto (-181), 3) := by decide +kernel
theorem dX5_rightsOf_208 : decode cX5_rightsOf 208 = .ok (.iload_n 3, 1) := by decide +kernel
theorem dX5_rightsOf_209 : decode cX5_rightsOf 209 = .ok (.ireturn, 1) := by decide +kernel
set_option maxRecDepth 20000 in
theorem ggX5_rights_X5_isPerson : GoodIn wsX5_rights wsX5_isPerson := goodIn_r _ [4, 5, 6, 3, 7] (by decide +kernel) (by decide +kernel)
set_option maxRecDepth 20000 in
theorem gX5_rights_X5_isPerson : GoodIn wsX5_rights (va_wsS RX5 79 yX5_isPerson wsX5_isPerson) := goodIn_app (goodIn_of _ (by decide +kernel)) ggX5_rights_X5_isPerson
set_option maxRecDepth 20000 in
theorem ggX5_rights_X5_isFolder : GoodIn wsX5_rights wsX5_isFolder := goodIn_r _ [11, 12, 5, 6, 3, 7, 47, 48, 49, 50, 51, 52, 53, 54, 55, 56, 57, 58, 59, 60, 61, 62, 63, 64, 65, 66] (by decide +kernel) (by decide +kernel)
set_option maxRecDepth 20000 in
theorem gX5_rights_X5_isFolder : GoodIn wsX5_rights (wsV RX5 88 RX5 yX5_isFolder wsX5_isFolder) := goodIn_app (goodIn_of _ (by decide +kernel)) ggX5_rights_X5_isFolder
set_option maxRecDepth 20000 in
theorem ggX5_rights_X5_isFine : GoodIn wsX5_rights wsX5_isFine := goodIn_r _ [16, 17, 47, 48, 49, 50, 51, 52, 53, 54, 55, 56, 57, 58, 59, 60, 61, 62, 63, 64, 65, 66] (by decide +kernel) (by decide +kernel)
set_option maxRecDepth 20000 in
theorem gX5_rights_X5_isFine : GoodIn wsX5_rights (wsV RX5 82 RX5 yX5_isFine wsX5_isFine) := goodIn_app (goodIn_of _ (by decide +kernel)) ggX5_rights_X5_isFine
set_option maxRecDepth 20000 in
theorem ggX5_rights_X5_rightsOf : GoodIn wsX5_rights wsX5_rightsOf := goodIn_r _ [21, 22, 23, 24, 25, 26, 27, 28, 29, 30, 31, 3, 32, 33, 34, 35, 36, 37, 38, 39, 40, 41, 42, 43, 44, 45, 46, 47, 48, 49, 50, 51, 52, 53, 54, 55, 56, 57, 58, 59, 60, 61, 62, 63, 64, 65, 66] (by decide +kernel) (by decide +kernel)
set_option maxRecDepth 20000 in
theorem gX5_rights_X5_rightsOf : GoodIn wsX5_rights (wsV RX5 94 RX5 yX5_rightsOf wsX5_rightsOf) := goodIn_app (goodIn_of _ (by decide +kernel)) ggX5_rights_X5_rightsOf
theorem dX5_rights_0 : decode cX5_rights 0 = .ok (.aload_n 0, 1) := by decide +kernel
theorem dX5_rights_1 : decode cX5_rights 1 = .ok (.iload_n 1, 1) := by decide +kernel
theorem dX5_rights_2 : decode cX5_rights 2 = .ok (.invokestatic 79, 3) := by decide +kernel
theorem dX5_rights_5 : decode cX5_rights 5 = .ok (.ifCond .eq 15, 3) := by decide +kernel
theorem dX5_rights_8 : decode cX5_rights 8 = .ok (.aload_n 0, 1) := by decide +kernel
theorem dX5_rights_9 : decode cX5_rights 9 = .ok (.iload_n 2, 1) := by decide +kernel
theorem dX5_rights_10 : decode cX5_rights 10 = .ok (.invokevirtual 88, 3) := by decide +kernel
theorem dX5_rights_13 : decode cX5_rights 13 = .ok (.ifCond .eq 7, 3) := by decide +kernel
theorem dX5_rights_16 : decode cX5_rights 16 = .ok (.iconst 0, 1) := by decide +kernel
theorem dX5_rights_17 : decode cX5_rights 17 = .ok (.goto 4, 3) := by decide +kernel
theorem dX5_rights_20 : decode cX5_rights 20 = .ok (.iconst 1, 1) := by decide +kernel
theorem dX5_rights_21 : decode cX5_rights 21 = .ok (.invokevirtual 82, 3) := by decide +kernel
theorem dX5_rights_24 : decode cX5_rights 24 = .ok (.ifCond .eq 12, 3) := by decide +kernel
theorem dX5_rights_27 : decode cX5_rights 27 = .ok (.aload_n 0, 1) := by decide +kernel
theorem dX5_rights_28 : decode cX5_rights 28 = .ok (.iload_n 1, 1) := by decide +kernel
theorem dX5_rights_29 : decode cX5_rights 29 = .ok (.iload_n 2, 1) := by decide +kernel
theorem dX5_rights_30 : decode cX5_rights 30 = .ok (.invokevirtual 94, 3) := by decide +kernel
theorem dX5_rights_33 : decode cX5_rights 33 = .ok (.goto 4, 3) := by decide +kernel
theorem dX5_rights_36 : decode cX5_rights 36 = .ok (.iconst 0, 1) := by decide +kernel
theorem dX5_rights_37 : decode cX5_rights 37 = .ok (.ireturn, 1) := by decide +kernel
set_option maxRecDepth 20000 in
theorem ggX5_rightsBackwards_X5_rights : GoodIn wsX5_rightsBackwards wsX5_rights := goodIn_r _ [5, 6, 7, 4, 8, 9, 10, 11, 12, 13, 14, 15, 16, 17, 18, 19, 20, 21, 22, 23, 24, 25, 26, 27, 28, 29, 30, 31, 32, 33, 34, 35, 36, 37, 38, 39, 40, 41, 42, 43, 44, 45, 46, 47, 48, 49, 50, 51, 52, 53, 54, 55, 56, 57, 58, 59, 60, 61, 62, 63, 64, 65, 66, 67, 68, 69, 70] (by decide +kernel) (by decide +kernel)
set_option maxRecDepth 20000 in
theorem gX5_rightsBackwards_X5_rights : GoodIn wsX5_rightsBackwards (wsV RX5 98 RX5 yX5_rights wsX5_rights) := goodIn_app (goodIn_of _ (by decide +kernel)) ggX5_rightsBackwards_X5_rights
theorem dX5_rightsBackwards_0 : decode cX5_rightsBackwards 0 = .ok (.aload_n 0, 1) := by decide +kernel
theorem dX5_rightsBackwards_1 : decode cX5_rightsBackwards 1 = .ok (.iload_n 1, 1) := by decide +kernel
theorem dX5_rightsBackwards_2 : decode cX5_rightsBackwards 2 = .ok (.iload_n 2, 1) := by decide +kernel
theorem dX5_rightsBackwards_3 : decode cX5_rightsBackwards 3 = .ok (.invokevirtual 98, 3) := by decide +kernel
theorem dX5_rightsBackwards_6 : decode cX5_rightsBackwards 6 = .ok (.ireturn, 1) := by decide +kernel
set_option maxRecDepth 20000 in
theorem ggX5_common_X5_has : GoodIn wsX5_common wsX5_has := goodIn_r _ [5] (by decide +kernel) (by decide +kernel)
set_option maxRecDepth 20000 in
theorem gX5_common_X5_has : GoodIn wsX5_common (va_wsS RX5 67 yX5_has wsX5_has) := goodIn_app (goodIn_of _ (by decide +kernel)) ggX5_common_X5_has
theorem dX5_common_0 : decode cX5_common 0 = .ok (.iload_n 1, 1) := by decide +kernel
theorem dX5_common_1 : decode cX5_common 1 = .ok (.ifCond .ne 7, 3) := by decide +kernel
theorem dX5_common_4 : decode cX5_common 4 = .ok (.iconst 0, 1) := by decide +kernel
theorem dX5_common_5 : decode cX5_common 5 = .ok (.goto 5, 3) := by decide +kernel
theorem dX5_common_8 : decode cX5_common 8 = .ok (.bipush 7, 2) := by decide +kernel
theorem dX5_common_10 : decode cX5_common 10 = .ok (.istore_n 2, 1) := by decide +kernel
theorem dX5_common_11 : decode cX5_common 11 = .ok (.iconst 0, 1) := by decide +kernel
theorem dX5_common_12 : decode cX5_common 12 = .ok (.istore_n 3, 1) := by decide +kernel
theorem dX5_common_13 : decode cX5_common 13 = .ok (.iload_n 3, 1) := by decide +kernel
theorem dX5_common_14 : decode cX5_common 14 = .ok (.bipush 8, 2) := by decide +kernel
theorem dX5_common_16 : decode cX5_common 16 = .ok (.if_icmp .ge 31, 3) := by decide +kernel
theorem dX5_common_19 : decode cX5_common 19 = .ok (.iload_n 2, 1) := by decide +kernel
theorem dX5_common_20 : decode cX5_common 20 = .ok (.iload_n 1, 1) := by decide +kernel
theorem dX5_common_21 : decode cX5_common 21 = .ok (.iload_n 3, 1) := by decide +kernel
theorem dX5_common_22 : decode cX5_common 22 = .ok (.invokestatic 67, 3) := by decide +kernel
theorem dX5_common_25 : decode cX5_common 25 = .ok (.ifCond .eq 12, 3) := by decide +kernel
theorem dX5_common_28 : decode cX5_common 28 = .ok (.aload_n 0, 1) := by decide +kernel
theorem dX5_common_29 : decode cX5_common 29 = .ok (.getfield 45, 3) := by decide +kernel
theorem dX5_common_32 : decode cX5_common 32 = .ok (.iload_n 3, 1) := by decide +kernel
theorem dX5_common_33 : decode cX5_common 33 = .ok (.iaload, 1) := by decide +kernel
theorem dX5_common_34 : decode cX5_common 34 = .ok (.goto 5, 3) := by decide +kernel
theorem dX5_common_37 : decode cX5_common 37 = .ok (.bipush 7, 2) := by decide +kernel
theorem dX5_common_39 : decode cX5_common 39 = .ok (.iand, 1) := by decide +kernel
theorem dX5_common_40 : decode cX5_common 40 = .ok (.istore_n 2, 1) := by decide +kernel
theorem dX5_common_41 : decode cX5_common 41 = .ok (.iinc 3 1, 3) := by decide +kernel
theorem dX5_common_44 : decode cX5_common 44 = .ok (.goto (-31), 3) := by decide +kernel
theorem dX5_common_47 : decode cX5_common 47 = .ok (.iload_n 2, 1) := by decide +kernel
theorem dX5_common_48 : decode cX5_common 48 = .ok (.ireturn, 1) := by decide +kernel
set_option maxRecDepth 20000 in
theorem ggX5_fits_X5_membersOf : GoodIn wsX5_fits wsX5_membersOf := goodIn_r _ [11, 12, 13, 14, 15, 10, 16, 17, 18, 19, 20, 28, 29, 30, 31, 32, 33, 34, 35, 36, 37, 38, 39, 40, 41, 42, 43, 44, 45, 46, 47] (by decide +kernel) (by decide +kernel)
set_option maxRecDepth 20000 in
theorem gX5_fits_X5_membersOf : GoodIn wsX5_fits (wsV RX5 85 RX5 yX5_membersOf wsX5_membersOf) := goodIn_app (goodIn_of _ (by decide +kernel)) ggX5_fits_X5_membersOf
set_option maxRecDepth 20000 in
theorem ggX5_fits_X5_common : GoodIn wsX5_fits wsX5_common := goodIn_r _ [24, 6, 18, 19, 10, 20, 28, 29, 30, 31, 32, 33, 34, 35, 36, 37, 38, 39, 40, 41, 42, 43, 44, 45, 46, 47] (by decide +kernel) (by decide +kernel)
set_option maxRecDepth 20000 in
theorem gX5_fits_X5_common : GoodIn wsX5_fits (wsV RX5 104 RX5 yX5_common wsX5_common) := goodIn_app (goodIn_of _ (by decide +kernel)) ggX5_fits_X5_common
set_option maxRecDepth 20000 in
theorem ggX5_fits_X5_has : GoodIn wsX5_fits wsX5_has := goodIn_r _ [20] (by decide +kernel) (by decide +kernel)
set_option maxRecDepth 20000 in
theorem gX5_fits_X5_has : GoodIn wsX5_fits (va_wsS RX5 67 yX5_has wsX5_has) := goodIn_app (goodIn_of _ (by decide +kernel)) ggX5_fits_X5_has
set_option maxRecDepth 20000 in
theorem ggX5_fits_X5_size : GoodIn wsX5_fits wsX5_size := goodIn_r _ [27] (by decide +kernel) (by decide +kernel)
set_option maxRecDepth 20000 in
theorem gX5_fits_X5_size : GoodIn wsX5_fits (va_wsS RX5 113 yX5_size wsX5_size) := goodIn_app (goodIn_of _ (by decide +kernel)) ggX5_fits_X5_size
theorem dX5_fits_0 : decode cX5_fits 0 = .ok (.sipush 255, 3) := by decide +kernel
theorem dX5_fits_3 : decode cX5_fits 3 = .ok (.aload_n 0, 1) := by decide +kernel
theorem dX5_fits_4 : decode cX5_fits 4 = .ok (.getfield 101, 3) := by decide +kernel
theorem dX5_fits_7 : decode cX5_fits 7 = .ok (.iconst (-1), 1) := by decide +kernel
theorem dX5_fits_8 : decode cX5_fits 8 = .ok (.ixor, 1) := by decide +kernel
theorem dX5_fits_9 : decode cX5_fits 9 = .ok (.iand, 1) := by decide +kernel
theorem dX5_fits_10 : decode cX5_fits 10 = .ok (.iconst 1, 1) := by decide +kernel
theorem dX5_fits_11 : decode cX5_fits 11 = .ok (.aload_n 0, 1) := by decide +kernel
theorem dX5_fits_12 : decode cX5_fits 12 = .ok (.getfield 19, 3) := by decide +kernel
theorem dX5_fits_15 : decode cX5_fits 15 = .ok (.iload_n 1, 1) := by decide +kernel
theorem dX5_fits_16 : decode cX5_fits 16 = .ok (.iaload, 1) := by decide +kernel
theorem dX5_fits_17 : decode cX5_fits 17 = .ok (.ishl, 1) := by decide +kernel
theorem dX5_fits_18 : decode cX5_fits 18 = .ok (.iconst (-1), 1) := by decide +kernel
theorem dX5_fits_19 : decode cX5_fits 19 = .ok (.ixor, 1) := by decide +kernel
theorem dX5_fits_20 : decode cX5_fits 20 = .ok (.iand, 1) := by decide +kernel
theorem dX5_fits_21 : decode cX5_fits 21 = .ok (.istore_n 3, 1) := by decide +kernel
theorem dX5_fits_22 : decode cX5_fits 22 = .ok (.iload_n 2, 1) := by decide +kernel
theorem dX5_fits_23 : decode cX5_fits 23 = .ok (.iconst (-1), 1) := by decide +kernel
theorem dX5_fits_24 : decode cX5_fits 24 = .ok (.if_icmp .ne 7, 3) := by decide +kernel
theorem dX5_fits_27 : decode cX5_fits 27 = .ok (.iconst 0, 1) := by decide +kernel
theorem dX5_fits_28 : decode cX5_fits 28 = .ok (.goto 10, 3) := by decide +kernel
theorem dX5_fits_31 : decode cX5_fits 31 = .ok (.aload_n 0, 1) := by decide +kernel
theorem dX5_fits_32 : decode cX5_fits 32 = .ok (.iload_n 2, 1) := by decide +kernel
theorem dX5_fits_33 : decode cX5_fits 33 = .ok (.invokevirtual 85, 3) := by decide +kernel
theorem dX5_fits_36 : decode cX5_fits 36 = .ok (.iload_n 3, 1) := by decide +kernel
theorem dX5_fits_37 : decode cX5_fits 37 = .ok (.iand, 1) := by decide +kernel
theorem dX5_fits_38 : decode cX5_fits 38 = .ok (.istore 4, 2) := by decide +kernel
theorem dX5_fits_40 : decode cX5_fits 40 = .ok (.aload_n 0, 1) := by decide +kernel
theorem dX5_fits_41 : decode cX5_fits 41 = .ok (.aload_n 0, 1) := by decide +kernel
theorem dX5_fits_42 : decode cX5_fits 42 = .ok (.iload 4, 2) := by decide +kernel
theorem dX5_fits_44 : decode cX5_fits 44 = .ok (.invokevirtual 104, 3) := by decide +kernel
theorem dX5_fits_47 : decode cX5_fits 47 = .ok (.putfield 107, 3) := by decide +kernel
theorem dX5_fits_50 : decode cX5_fits 50 = .ok (.aload_n 0, 1) := by decide +kernel
theorem dX5_fits_51 : decode cX5_fits 51 = .ok (.aload_n 0, 1) := by decide +kernel
theorem dX5_fits_52 : decode cX5_fits 52 = .ok (.iload_n 3, 1) := by decide +kernel
theorem dX5_fits_53 : decode cX5_fits 53 = .ok (.iload 4, 2) := by decide +kernel
theorem dX5_fits_55 : decode cX5_fits 55 = .ok (.iconst (-1), 1) := by decide +kernel
theorem dX5_fits_56 : decode cX5_fits 56 = .ok (.ixor, 1) := by decide +kernel
theorem dX5_fits_57 : decode cX5_fits 57 = .ok (.iand, 1) := by decide +kernel
theorem dX5_fits_58 : decode cX5_fits 58 = .ok (.invokevirtual 104, 3) := by decide +kernel
theorem dX5_fits_61 : decode cX5_fits 61 = .ok (.putfield 110, 3) := by decide +kernel
theorem dX5_fits_64 : decode cX5_fits 64 = .ok (.iconst 0, 1) := by decide +kernel
theorem dX5_fits_65 : decode cX5_fits 65 = .ok (.istore 5, 2) := by decide +kernel
theorem dX5_fits_67 : decode cX5_fits 67 = .ok (.iconst 0, 1) := by decide +kernel
theorem dX5_fits_68 : decode cX5_fits 68 = .ok (.istore 6, 2) := by decide +kernel
theorem dX5_fits_70 : decode cX5_fits 70 = .ok (.iload 6, 2) := by decide +kernel
theorem dX5_fits_72 : decode cX5_fits 72 = .ok (.bipush 8, 2) := by decide +kernel
theorem dX5_fits_74 : decode cX5_fits 74 = .ok (.if_icmp .ge 100, 3) := by decide +kernel
theorem dX5_fits_77 : decode cX5_fits 77 = .ok (.aload_n 0, 1) := by decide +kernel
theorem dX5_fits_78 : decode cX5_fits 78 = .ok (.getfield 48, 3) := by decide +kernel
theorem dX5_fits_81 : decode cX5_fits 81 = .ok (.iload 6, 2) := by decide +kernel
theorem dX5_fits_83 : decode cX5_fits 83 = .ok (.iload 6, 2) := by decide +kernel
theorem dX5_fits_85 : decode cX5_fits 85 = .ok (.aload_n 0, 1) := by decide +kernel
theorem dX5_fits_86 : decode cX5_fits 86 = .ok (.getfield 19, 3) := by decide +kernel
theorem dX5_fits_89 : decode cX5_fits 89 = .ok (.iload_n 1, 1) := by decide +kernel
theorem dX5_fits_90 : decode cX5_fits 90 = .ok (.iaload, 1) := by decide +kernel
theorem dX5_fits_91 : decode cX5_fits 91 = .ok (.if_icmp .ne 8, 3) := by decide +kernel
theorem dX5_fits_94 : decode cX5_fits 94 = .ok (.bipush 7, 2) := by decide +kernel
theorem dX5_fits_96 : decode cX5_fits 96 = .ok (.goto 46, 3) := by decide +kernel
theorem dX5_fits_99 : decode cX5_fits 99 = .ok (.aload_n 0, 1) := by decide +kernel
theorem dX5_fits_100 : decode cX5_fits 100 = .ok (.getfield 101, 3) := by decide +kernel
theorem dX5_fits_103 : decode cX5_fits 103 = .ok (.iload 6, 2) := by decide +kernel
theorem dX5_fits_105 : decode cX5_fits 105 = .ok (.invokestatic 67, 3) := by decide +kernel
theorem dX5_fits_108 : decode cX5_fits 108 = .ok (.ifCond .eq 13, 3) := by decide +kernel
theorem dX5_fits_111 : decode cX5_fits 111 = .ok (.aload_n 0, 1) := by decide +kernel
theorem dX5_fits_112 : decode cX5_fits 112 = .ok (.getfield 45, 3) := by decide +kernel
theorem dX5_fits_115 : decode cX5_fits 115 = .ok (.iload 6, 2) := by decide +kernel
theorem dX5_fits_117 : decode cX5_fits 117 = .ok (.iaload, 1) := by decide +kernel
theorem dX5_fits_118 : decode cX5_fits 118 = .ok (.goto 24, 3) := by decide +kernel
theorem dX5_fits_121 : decode cX5_fits 121 = .ok (.iload 4, 2) := by decide +kernel
theorem dX5_fits_123 : decode cX5_fits 123 = .ok (.iload 6, 2) := by decide +kernel
theorem dX5_fits_125 : decode cX5_fits 125 = .ok (.invokestatic 67, 3) := by decide +kernel
theorem dX5_fits_128 : decode cX5_fits 128 = .ok (.ifCond .eq 10, 3) := by decide +kernel
theorem dX5_fits_131 : decode cX5_fits 131 = .ok (.aload_n 0, 1) := by decide +kernel
theorem dX5_fits_132 : decode cX5_fits 132 = .ok (.getfield 107, 3) := by decide +kernel
theorem dX5_fits_135 : decode cX5_fits 135 = .ok (.goto 7, 3) := by decide +kernel
theorem dX5_fits_138 : decode cX5_fits 138 = .ok (.aload_n 0, 1) := by decide +kernel
theorem dX5_fits_139 : decode cX5_fits 139 = .ok (.getfield 110, 3) := by decide +kernel
theorem dX5_fits_142 : decode cX5_fits 142 = .ok (.iastore, 1) := by decide +kernel
theorem dX5_fits_143 : decode cX5_fits 143 = .ok (.iload 5, 2) := by decide +kernel
theorem dX5_fits_145 : decode cX5_fits 145 = .ok (.aload_n 0, 1) := by decide +kernel
theorem dX5_fits_146 : decode cX5_fits 146 = .ok (.getfield 45, 3) := by decide +kernel
theorem dX5_fits_149 : decode cX5_fits 149 = .ok (.iload 6, 2) := by decide +kernel
theorem dX5_fits_151 : decode cX5_fits 151 = .ok (.iaload, 1) := by decide +kernel
theorem dX5_fits_152 : decode cX5_fits 152 = .ok (.aload_n 0, 1) := by decide +kernel
theorem dX5_fits_153 : decode cX5_fits 153 = .ok (.getfield 48, 3) := by decide +kernel
theorem dX5_fits_156 : decode cX5_fits 156 = .ok (.iload 6, 2) := by decide +kernel
theorem dX5_fits_158 : decode cX5_fits 158 = .ok (.iaload, 1) := by decide +kernel
theorem dX5_fits_159 : decode cX5_fits 159 = .ok (.iconst (-1), 1) := by decide +kernel
theorem dX5_fits_160 : decode cX5_fits 160 = .ok (.ixor, 1) := by decide +kernel
theorem dX5_fits_161 : decode cX5_fits 161 = .ok (.iand, 1) := by decide +kernel
theorem dX5_fits_162 : decode cX5_fits 162 = .ok (.invokestatic 113, 3) := by decide +kernel
theorem dX5_fits_165 : decode cX5_fits 165 = .ok (.iadd, 1) := by decide +kernel
theorem dX5_fits_166 : decode cX5_fits 166 = .ok (.istore 5, 2) := by decide +kernel
theorem dX5_fits_168 : decode cX5_fits 168 = .ok (.iinc 6 1, 3) := by decide +kernel
theorem dX5_fits_171 : decode cX5_fits 171 = .ok (.goto (-101), 3) := by decide +kernel
theorem dX5_fits_174 : decode cX5_fits 174 = .ok (.iload 5, 2) := by decide +kernel
theorem dX5_fits_176 : decode cX5_fits 176 = .ok (.ireturn, 1) := by decide +kernel
set_option maxRecDepth 20000 in
theorem ggX5_maps_X5_rightsOf : GoodIn wsX5_maps wsX5_rightsOf := goodIn_r _ [8, 9, 10, 11, 12, 13, 14, 15, 16, 17, 18, 7, 19, 20, 21, 22, 23, 24, 25, 26, 27, 28, 29, 30, 31, 32, 33, 47, 48, 49, 50, 51, 52, 53, 54, 55, 56, 57, 58, 59, 60, 61, 62, 63, 64, 65, 66] (by decide +kernel) (by decide +kernel)
set_option maxRecDepth 20000 in
theorem gX5_maps_X5_rightsOf : GoodIn wsX5_maps (wsV RX5 94 RX5 yX5_rightsOf wsX5_rightsOf) := goodIn_app (goodIn_of _ (by decide +kernel)) ggX5_maps_X5_rightsOf
set_option maxRecDepth 20000 in
theorem ggX5_maps_X5_fits : GoodIn wsX5_maps wsX5_fits := goodIn_r _ [37, 2, 9, 38, 39, 3, 1, 21, 22, 23, 7, 24, 25, 26, 27, 28, 29, 30, 31, 32, 33, 40, 41, 42, 43, 44, 45, 46, 47, 48, 49, 50, 51, 52, 53, 54, 55, 56, 57, 58, 59, 60, 61, 62, 63, 64, 65, 66] (by decide +kernel) (by decide +kernel)
set_option maxRecDepth 20000 in
theorem gX5_maps_X5_fits : GoodIn wsX5_maps (wsV RX5 116 RX5 yX5_fits wsX5_fits) := goodIn_app (goodIn_of _ (by decide +kernel)) ggX5_maps_X5_fits
set_option maxRecDepth 20000 in
theorem ggX5_maps_X5_size : GoodIn wsX5_maps wsX5_size := goodIn_r _ [46] (by decide +kernel) (by decide +kernel)
set_option maxRecDepth 20000 in
theorem gX5_maps_X5_size : GoodIn wsX5_maps (va_wsS RX5 113 yX5_size wsX5_size) := goodIn_app (goodIn_of _ (by decide +kernel)) ggX5_maps_X5_size
theorem dX5_maps_0 : decode cX5_maps 0 = .ok (.iconst 0, 1) := by decide +kernel
theorem dX5_maps_1 : decode cX5_maps 1 = .ok (.istore_n 3, 1) := by decide +kernel
theorem dX5_maps_2 : decode cX5_maps 2 = .ok (.iload_n 3, 1) := by decide +kernel
theorem dX5_maps_3 : decode cX5_maps 3 = .ok (.bipush 8, 2) := by decide +kernel
theorem dX5_maps_5 : decode cX5_maps 5 = .ok (.if_icmp .ge 21, 3) := by decide +kernel
theorem dX5_maps_8 : decode cX5_maps 8 = .ok (.aload_n 0, 1) := by decide +kernel
theorem dX5_maps_9 : decode cX5_maps 9 = .ok (.getfield 45, 3) := by decide +kernel
theorem dX5_maps_12 : decode cX5_maps 12 = .ok (.iload_n 3, 1) := by decide +kernel
theorem dX5_maps_13 : decode cX5_maps 13 = .ok (.aload_n 0, 1) := by decide +kernel
theorem dX5_maps_14 : decode cX5_maps 14 = .ok (.iload_n 3, 1) := by decide +kernel
theorem dX5_maps_15 : decode cX5_maps 15 = .ok (.iload_n 1, 1) := by decide +kernel
theorem dX5_maps_16 : decode cX5_maps 16 = .ok (.invokevirtual 94, 3) := by decide +kernel
theorem dX5_maps_19 : decode cX5_maps 19 = .ok (.iastore, 1) := by decide +kernel
theorem dX5_maps_20 : decode cX5_maps 20 = .ok (.iinc 3 1, 3) := by decide +kernel
theorem dX5_maps_23 : decode cX5_maps 23 = .ok (.goto (-21), 3) := by decide +kernel
theorem dX5_maps_26 : decode cX5_maps 26 = .ok (.aload_n 0, 1) := by decide +kernel
theorem dX5_maps_27 : decode cX5_maps 27 = .ok (.iconst 0, 1) := by decide +kernel
theorem dX5_maps_28 : decode cX5_maps 28 = .ok (.putfield 101, 3) := by decide +kernel
theorem dX5_maps_31 : decode cX5_maps 31 = .ok (.aload_n 0, 1) := by decide +kernel
theorem dX5_maps_32 : decode cX5_maps 32 = .ok (.iload_n 1, 1) := by decide +kernel
theorem dX5_maps_33 : decode cX5_maps 33 = .ok (.iload_n 2, 1) := by decide +kernel
theorem dX5_maps_34 : decode cX5_maps 34 = .ok (.invokevirtual 116, 3) := by decide +kernel
theorem dX5_maps_37 : decode cX5_maps 37 = .ok (.istore_n 3, 1) := by decide +kernel
theorem dX5_maps_38 : decode cX5_maps 38 = .ok (.iconst 0, 1) := by decide +kernel
theorem dX5_maps_39 : decode cX5_maps 39 = .ok (.istore 4, 2) := by decide +kernel
theorem dX5_maps_41 : decode cX5_maps 41 = .ok (.iload 4, 2) := by decide +kernel
theorem dX5_maps_43 : decode cX5_maps 43 = .ok (.iconst 3, 1) := by decide +kernel
theorem dX5_maps_44 : decode cX5_maps 44 = .ok (.if_icmp .ge 104, 3) := by decide +kernel
theorem dX5_maps_47 : decode cX5_maps 47 = .ok (.iload_n 3, 1) := by decide +kernel
theorem dX5_maps_48 : decode cX5_maps 48 = .ok (.ifCond .le 100, 3) := by decide +kernel
theorem dX5_maps_51 : decode cX5_maps 51 = .ok (.iconst 0, 1) := by decide +kernel
theorem dX5_maps_52 : decode cX5_maps 52 = .ok (.istore 5, 2) := by decide +kernel
theorem dX5_maps_54 : decode cX5_maps 54 = .ok (.iconst 1, 1) := by decide +kernel
theorem dX5_maps_55 : decode cX5_maps 55 = .ok (.istore 6, 2) := by decide +kernel
theorem dX5_maps_57 : decode cX5_maps 57 = .ok (.iload 6, 2) := by decide +kernel
theorem dX5_maps_59 : decode cX5_maps 59 = .ok (.bipush 8, 2) := by decide +kernel
theorem dX5_maps_61 : decode cX5_maps 61 = .ok (.if_icmp .ge 61, 3) := by decide +kernel
theorem dX5_maps_64 : decode cX5_maps 64 = .ok (.aload_n 0, 1) := by decide +kernel
theorem dX5_maps_65 : decode cX5_maps 65 = .ok (.getfield 45, 3) := by decide +kernel
theorem dX5_maps_68 : decode cX5_maps 68 = .ok (.iload 6, 2) := by decide +kernel
theorem dX5_maps_70 : decode cX5_maps 70 = .ok (.iaload, 1) := by decide +kernel
theorem dX5_maps_71 : decode cX5_maps 71 = .ok (.aload_n 0, 1) := by decide +kernel
theorem dX5_maps_72 : decode cX5_maps 72 = .ok (.getfield 48, 3) := by decide +kernel
theorem dX5_maps_75 : decode cX5_maps 75 = .ok (.iload 6, 2) := by decide +kernel
theorem dX5_maps_77 : decode cX5_maps 77 = .ok (.iaload, 1) := by decide +kernel
theorem dX5_maps_78 : decode cX5_maps 78 = .ok (.iconst (-1), 1) := by decide +kernel
theorem dX5_maps_79 : decode cX5_maps 79 = .ok (.ixor, 1) := by decide +kernel
theorem dX5_maps_80 : decode cX5_maps 80 = .ok (.iand, 1) := by decide +kernel
theorem dX5_maps_81 : decode cX5_maps 81 = .ok (.invokestatic 113, 3) := by decide +kernel
theorem dX5_maps_84 : decode cX5_maps 84 = .ok (.aload_n 0, 1) := by decide +kernel
theorem dX5_maps_85 : decode cX5_maps 85 = .ok (.getfield 45, 3) := by decide +kernel
theorem dX5_maps_88 : decode cX5_maps 88 = .ok (.iload 5, 2) := by decide +kernel
theorem dX5_maps_90 : decode cX5_maps 90 = .ok (.iaload, 1) := by decide +kernel
theorem dX5_maps_91 : decode cX5_maps 91 = .ok (.aload_n 0, 1) := by decide +kernel
theorem dX5_maps_92 : decode cX5_maps 92 = .ok (.getfield 48, 3) := by decide +kernel
theorem dX5_maps_95 : decode cX5_maps 95 = .ok (.iload 5, 2) := by decide +kernel
theorem dX5_maps_97 : decode cX5_maps 97 = .ok (.iaload, 1) := by decide +kernel
theorem dX5_maps_98 : decode cX5_maps 98 = .ok (.iconst (-1), 1) := by decide +kernel
theorem dX5_maps_99 : decode cX5_maps 99 = .ok (.ixor, 1) := by decide +kernel
theorem dX5_maps_100 : decode cX5_maps 100 = .ok (.iand, 1) := by decide +kernel
theorem dX5_maps_101 : decode cX5_maps 101 = .ok (.invokestatic 113, 3) := by decide +kernel
theorem dX5_maps_104 : decode cX5_maps 104 = .ok (.if_icmp .le 8, 3) := by decide +kernel
theorem dX5_maps_107 : decode cX5_maps 107 = .ok (.iload 6, 2) := by decide +kernel
theorem dX5_maps_109 : decode cX5_maps 109 = .ok (.goto 5, 3) := by decide +kernel
theorem dX5_maps_112 : decode cX5_maps 112 = .ok (.iload 5, 2) := by decide +kernel
theorem dX5_maps_114 : decode cX5_maps 114 = .ok (.istore 5, 2) := by decide +kernel
theorem dX5_maps_116 : decode cX5_maps 116 = .ok (.iinc 6 1, 3) := by decide +kernel
theorem dX5_maps_119 : decode cX5_maps 119 = .ok (.goto (-62), 3) := by decide +kernel
theorem dX5_maps_122 : decode cX5_maps 122 = .ok (.aload_n 0, 1) := by decide +kernel
theorem dX5_maps_123 : decode cX5_maps 123 = .ok (.dup, 1) := by decide +kernel
theorem dX5_maps_124 : decode cX5_maps 124 = .ok (.getfield 101, 3) := by decide +kernel
theorem dX5_maps_127 : decode cX5_maps 127 = .ok (.iconst 1, 1) := by decide +kernel
theorem dX5_maps_128 : decode cX5_maps 128 = .ok (.iload 5, 2) := by decide +kernel
theorem dX5_maps_130 : decode cX5_maps 130 = .ok (.ishl, 1) := by decide +kernel
theorem dX5_maps_131 : decode cX5_maps 131 = .ok (.ior, 1) := by decide +kernel
theorem dX5_maps_132 : decode cX5_maps 132 = .ok (.putfield 101, 3) := by decide +kernel
theorem dX5_maps_135 : decode cX5_maps 135 = .ok (.aload_n 0, 1) := by decide +kernel
theorem dX5_maps_136 : decode cX5_maps 136 = .ok (.iload_n 1, 1) := by decide +kernel
theorem dX5_maps_137 : decode cX5_maps 137 = .ok (.iload_n 2, 1) := by decide +kernel
theorem dX5_maps_138 : decode cX5_maps 138 = .ok (.invokevirtual 116, 3) := by decide +kernel
theorem dX5_maps_141 : decode cX5_maps 141 = .ok (.istore_n 3, 1) := by decide +kernel
theorem dX5_maps_142 : decode cX5_maps 142 = .ok (.iinc 4 1, 3) := by decide +kernel
theorem dX5_maps_145 : decode cX5_maps 145 = .ok (.goto (-104), 3) := by decide +kernel
theorem dX5_maps_148 : decode cX5_maps 148 = .ok (.iload_n 3, 1) := by decide +kernel
theorem dX5_maps_149 : decode cX5_maps 149 = .ok (.ireturn, 1) := by decide +kernel
set_option maxRecDepth 20000 in
theorem ggX5_mapsBest_X5_maps : GoodIn wsX5_mapsBest wsX5_maps := goodIn_r _ [5, 6, 7, 8, 9, 10, 11, 4, 12, 13, 14, 15, 16, 17, 18, 19, 20, 21, 22, 23, 24, 25, 26, 27, 28, 29, 30, 31, 32, 33, 34, 35, 36, 37, 38, 39, 40, 41, 42, 43, 44, 45, 46, 47, 48, 49, 50, 51, 52, 53, 54, 55, 56, 57, 58, 59, 60, 61, 62, 63, 64, 65, 66, 67, 68, 69, 70] (by decide +kernel) (by decide +kernel)
set_option maxRecDepth 20000 in
theorem gX5_mapsBest_X5_maps : GoodIn wsX5_mapsBest (wsV RX5 119 RX5 yX5_maps wsX5_maps) := goodIn_app (goodIn_of _ (by decide +kernel)) ggX5_mapsBest_X5_maps
theorem dX5_mapsBest_0 : decode cX5_mapsBest 0 = .ok (.iconst (-1), 1) := by decide +kernel
theorem dX5_mapsBest_1 : decode cX5_mapsBest 1 = .ok (.istore_n 2, 1) := by decide +kernel
theorem dX5_mapsBest_2 : decode cX5_mapsBest 2 = .ok (.aload_n 0, 1) := by decide +kernel
theorem dX5_mapsBest_3 : decode cX5_mapsBest 3 = .ok (.iload_n 1, 1) := by decide +kernel
theorem dX5_mapsBest_4 : decode cX5_mapsBest 4 = .ok (.iconst (-1), 1) := by decide +kernel
theorem dX5_mapsBest_5 : decode cX5_mapsBest 5 = .ok (.invokevirtual 119, 3) := by decide +kernel
theorem dX5_mapsBest_8 : decode cX5_mapsBest 8 = .ok (.istore_n 3, 1) := by decide +kernel
theorem dX5_mapsBest_9 : decode cX5_mapsBest 9 = .ok (.iconst 0, 1) := by decide +kernel
theorem dX5_mapsBest_10 : decode cX5_mapsBest 10 = .ok (.istore 4, 2) := by decide +kernel
theorem dX5_mapsBest_12 : decode cX5_mapsBest 12 = .ok (.iload 4, 2) := by decide +kernel
theorem dX5_mapsBest_14 : decode cX5_mapsBest 14 = .ok (.bipush 6, 2) := by decide +kernel
theorem dX5_mapsBest_16 : decode cX5_mapsBest 16 = .ok (.if_icmp .ge 44, 3) := by decide +kernel
theorem dX5_mapsBest_19 : decode cX5_mapsBest 19 = .ok (.aload_n 0, 1) := by decide +kernel
theorem dX5_mapsBest_20 : decode cX5_mapsBest 20 = .ok (.iload_n 1, 1) := by decide +kernel
theorem dX5_mapsBest_21 : decode cX5_mapsBest 21 = .ok (.iload 4, 2) := by decide +kernel
theorem dX5_mapsBest_23 : decode cX5_mapsBest 23 = .ok (.invokevirtual 119, 3) := by decide +kernel
theorem dX5_mapsBest_26 : decode cX5_mapsBest 26 = .ok (.istore 5, 2) := by decide +kernel
theorem dX5_mapsBest_28 : decode cX5_mapsBest 28 = .ok (.iload 5, 2) := by decide +kernel
theorem dX5_mapsBest_30 : decode cX5_mapsBest 30 = .ok (.iload_n 3, 1) := by decide +kernel
theorem dX5_mapsBest_31 : decode cX5_mapsBest 31 = .ok (.if_icmp .ge 8, 3) := by decide +kernel
theorem dX5_mapsBest_34 : decode cX5_mapsBest 34 = .ok (.iload 4, 2) := by decide +kernel
theorem dX5_mapsBest_36 : decode cX5_mapsBest 36 = .ok (.goto 4, 3) := by decide +kernel
theorem dX5_mapsBest_39 : decode cX5_mapsBest 39 = .ok (.iload_n 2, 1) := by decide +kernel
theorem dX5_mapsBest_40 : decode cX5_mapsBest 40 = .ok (.istore_n 2, 1) := by decide +kernel
theorem dX5_mapsBest_41 : decode cX5_mapsBest 41 = .ok (.iload 5, 2) := by decide +kernel
theorem dX5_mapsBest_43 : decode cX5_mapsBest 43 = .ok (.iload_n 3, 1) := by decide +kernel
theorem dX5_mapsBest_44 : decode cX5_mapsBest 44 = .ok (.if_icmp .ge 8, 3) := by decide +kernel
theorem dX5_mapsBest_47 : decode cX5_mapsBest 47 = .ok (.iload 5, 2) := by decide +kernel
theorem dX5_mapsBest_49 : decode cX5_mapsBest 49 = .ok (.goto 4, 3) := by decide +kernel
theorem dX5_mapsBest_52 : decode cX5_mapsBest 52 = .ok (.iload_n 3, 1) := by decide +kernel
theorem dX5_mapsBest_53 : decode cX5_mapsBest 53 = .ok (.istore_n 3, 1) := by decide +kernel
theorem dX5_mapsBest_54 : decode cX5_mapsBest 54 = .ok (.iinc 4 1, 3) := by decide +kernel
theorem dX5_mapsBest_57 : decode cX5_mapsBest 57 = .ok (.goto (-45), 3) := by decide +kernel
theorem dX5_mapsBest_60 : decode cX5_mapsBest 60 = .ok (.aload_n 0, 1) := by decide +kernel
theorem dX5_mapsBest_61 : decode cX5_mapsBest 61 = .ok (.iload_n 1, 1) := by decide +kernel
theorem dX5_mapsBest_62 : decode cX5_mapsBest 62 = .ok (.iload_n 2, 1) := by decide +kernel
theorem dX5_mapsBest_63 : decode cX5_mapsBest 63 = .ok (.invokevirtual 119, 3) := by decide +kernel
theorem dX5_mapsBest_66 : decode cX5_mapsBest 66 = .ok (.pop, 1) := by decide +kernel
theorem dX5_mapsBest_67 : decode cX5_mapsBest 67 = .ok (.iload_n 2, 1) := by decide +kernel
theorem dX5_mapsBest_68 : decode cX5_mapsBest 68 = .ok (.ireturn, 1) := by decide +kernel
set_option maxRecDepth 20000 in
theorem ggX5_groupOf_X5_isFolder : GoodIn wsX5_groupOf wsX5_isFolder := goodIn_r _ [5, 6, 7, 8, 4, 9, 68, 69, 70, 71, 72, 73, 74, 75, 76, 77, 78, 79, 80, 81, 82, 83, 84, 85, 86, 87] (by decide +kernel) (by decide +kernel)
set_option maxRecDepth 20000 in
theorem gX5_groupOf_X5_isFolder : GoodIn wsX5_groupOf (wsV RX5 88 RX5 yX5_isFolder wsX5_isFolder) := goodIn_app (goodIn_of _ (by decide +kernel)) ggX5_groupOf_X5_isFolder
set_option maxRecDepth 20000 in
theorem ggX5_groupOf_X5_isFine : GoodIn wsX5_groupOf wsX5_isFine := goodIn_r _ [13, 14, 68, 69, 70, 71, 72, 73, 74, 75, 76, 77, 78, 79, 80, 81, 82, 83, 84, 85, 86, 87] (by decide +kernel) (by decide +kernel)
set_option maxRecDepth 20000 in
theorem gX5_groupOf_X5_isFine : GoodIn wsX5_groupOf (wsV RX5 82 RX5 yX5_isFine wsX5_isFine) := goodIn_app (goodIn_of _ (by decide +kernel)) ggX5_groupOf_X5_isFine
set_option maxRecDepth 20000 in
theorem ggX5_groupOf_X5_mapsBest : GoodIn wsX5_groupOf wsX5_mapsBest := goodIn_r _ [18, 19, 20, 21, 4, 22, 23, 24, 25, 26, 27, 28, 29, 30, 31, 32, 33, 34, 35, 36, 37, 38, 39, 40, 41, 42, 43, 44, 45, 46, 47, 48, 49, 50, 51, 52, 53, 54, 55, 56, 57, 58, 59, 60, 61, 62, 63, 64, 65, 66, 67, 68, 69, 70, 71, 72, 73, 74, 75, 76, 77, 78, 79, 80, 81, 82, 83, 84, 85, 86, 87] (by decide +kernel) (by decide +kernel)
set_option maxRecDepth 20000 in
theorem gX5_groupOf_X5_mapsBest : GoodIn wsX5_groupOf (wsV RX5 122 RX5 yX5_mapsBest wsX5_mapsBest) := goodIn_app (goodIn_of _ (by decide +kernel)) ggX5_groupOf_X5_mapsBest
theorem dX5_groupOf_0 : decode cX5_groupOf 0 = .ok (.aload_n 0, 1) := by decide +kernel
theorem dX5_groupOf_1 : decode cX5_groupOf 1 = .ok (.aload_n 0, 1) := by decide +kernel
theorem dX5_groupOf_2 : decode cX5_groupOf 2 = .ok (.iload_n 1, 1) := by decide +kernel
theorem dX5_groupOf_3 : decode cX5_groupOf 3 = .ok (.invokevirtual 88, 3) := by decide +kernel
theorem dX5_groupOf_6 : decode cX5_groupOf 6 = .ok (.ifCond .eq 7, 3) := by decide +kernel
theorem dX5_groupOf_9 : decode cX5_groupOf 9 = .ok (.iconst 0, 1) := by decide +kernel
theorem dX5_groupOf_10 : decode cX5_groupOf 10 = .ok (.goto 4, 3) := by decide +kernel
theorem dX5_groupOf_13 : decode cX5_groupOf 13 = .ok (.iconst 1, 1) := by decide +kernel
theorem dX5_groupOf_14 : decode cX5_groupOf 14 = .ok (.invokevirtual 82, 3) := by decide +kernel
theorem dX5_groupOf_17 : decode cX5_groupOf 17 = .ok (.ifCond .eq 11, 3) := by decide +kernel
theorem dX5_groupOf_20 : decode cX5_groupOf 20 = .ok (.aload_n 0, 1) := by decide +kernel
theorem dX5_groupOf_21 : decode cX5_groupOf 21 = .ok (.iload_n 1, 1) := by decide +kernel
theorem dX5_groupOf_22 : decode cX5_groupOf 22 = .ok (.invokevirtual 122, 3) := by decide +kernel
theorem dX5_groupOf_25 : decode cX5_groupOf 25 = .ok (.goto 4, 3) := by decide +kernel
theorem dX5_groupOf_28 : decode cX5_groupOf 28 = .ok (.iconst 0, 1) := by decide +kernel
theorem dX5_groupOf_29 : decode cX5_groupOf 29 = .ok (.ireturn, 1) := by decide +kernel
set_option maxRecDepth 20000 in
theorem ggX5_bits_X5_isFolder : GoodIn wsX5_bits wsX5_isFolder := goodIn_r _ [7, 8, 9, 10, 6, 11, 68, 69, 70, 71, 72, 73, 74, 75, 76, 77, 78, 79, 80, 81, 82, 83, 84, 85, 86, 87] (by decide +kernel) (by decide +kernel)
set_option maxRecDepth 20000 in
theorem gX5_bits_X5_isFolder : GoodIn wsX5_bits (wsV RX5 88 RX5 yX5_isFolder wsX5_isFolder) := goodIn_app (goodIn_of _ (by decide +kernel)) ggX5_bits_X5_isFolder
set_option maxRecDepth 20000 in
theorem ggX5_bits_X5_isFine : GoodIn wsX5_bits wsX5_isFine := goodIn_r _ [15, 16, 68, 69, 70, 71, 72, 73, 74, 75, 76, 77, 78, 79, 80, 81, 82, 83, 84, 85, 86, 87] (by decide +kernel) (by decide +kernel)
set_option maxRecDepth 20000 in
theorem gX5_bits_X5_isFine : GoodIn wsX5_bits (wsV RX5 82 RX5 yX5_isFine wsX5_isFine) := goodIn_app (goodIn_of _ (by decide +kernel)) ggX5_bits_X5_isFine
set_option maxRecDepth 20000 in
theorem ggX5_bits_X5_mapsBest : GoodIn wsX5_bits wsX5_mapsBest := goodIn_r _ [20, 21, 22, 23, 6, 24, 25, 26, 27, 28, 29, 30, 31, 32, 33, 34, 35, 36, 37, 38, 39, 40, 41, 42, 43, 44, 45, 46, 47, 48, 49, 50, 51, 52, 53, 54, 55, 56, 57, 58, 59, 60, 1, 2, 61, 62, 63, 64, 65, 66, 67, 68, 69, 70, 71, 72, 73, 74, 75, 76, 77, 78, 79, 80, 81, 82, 83, 84, 85, 86, 87] (by decide +kernel) (by decide +kernel)
set_option maxRecDepth 20000 in
theorem gX5_bits_X5_mapsBest : GoodIn wsX5_bits (wsV RX5 122 RX5 yX5_mapsBest wsX5_mapsBest) := goodIn_app (goodIn_of _ (by decide +kernel)) ggX5_bits_X5_mapsBest
theorem dX5_bits_0 : decode cX5_bits 0 = .ok (.aload_n 0, 1) := by decide +kernel
theorem dX5_bits_1 : decode cX5_bits 1 = .ok (.aload_n 0, 1) := by decide +kernel
theorem dX5_bits_2 : decode cX5_bits 2 = .ok (.iload_n 1, 1) := by decide +kernel
theorem dX5_bits_3 : decode cX5_bits 3 = .ok (.invokevirtual 88, 3) := by decide +kernel
theorem dX5_bits_6 : decode cX5_bits 6 = .ok (.ifCond .eq 7, 3) := by decide +kernel
theorem dX5_bits_9 : decode cX5_bits 9 = .ok (.iconst 0, 1) := by decide +kernel
theorem dX5_bits_10 : decode cX5_bits 10 = .ok (.goto 4, 3) := by decide +kernel
theorem dX5_bits_13 : decode cX5_bits 13 = .ok (.iconst 1, 1) := by decide +kernel
theorem dX5_bits_14 : decode cX5_bits 14 = .ok (.invokevirtual 82, 3) := by decide +kernel
theorem dX5_bits_17 : decode cX5_bits 17 = .ok (.ifCond .ne 5, 3) := by decide +kernel
theorem dX5_bits_20 : decode cX5_bits 20 = .ok (.iconst 0, 1) := by decide +kernel
theorem dX5_bits_21 : decode cX5_bits 21 = .ok (.ireturn, 1) := by decide +kernel
theorem dX5_bits_22 : decode cX5_bits 22 = .ok (.aload_n 0, 1) := by decide +kernel
theorem dX5_bits_23 : decode cX5_bits 23 = .ok (.iload_n 1, 1) := by decide +kernel
theorem dX5_bits_24 : decode cX5_bits 24 = .ok (.invokevirtual 122, 3) := by decide +kernel
theorem dX5_bits_27 : decode cX5_bits 27 = .ok (.pop, 1) := by decide +kernel
theorem dX5_bits_28 : decode cX5_bits 28 = .ok (.bipush 10, 2) := by decide +kernel
theorem dX5_bits_30 : decode cX5_bits 30 = .ok (.aload_n 0, 1) := by decide +kernel
theorem dX5_bits_31 : decode cX5_bits 31 = .ok (.getfield 107, 3) := by decide +kernel
theorem dX5_bits_34 : decode cX5_bits 34 = .ok (.imul, 1) := by decide +kernel
theorem dX5_bits_35 : decode cX5_bits 35 = .ok (.aload_n 0, 1) := by decide +kernel
theorem dX5_bits_36 : decode cX5_bits 36 = .ok (.getfield 110, 3) := by decide +kernel
theorem dX5_bits_39 : decode cX5_bits 39 = .ok (.iadd, 1) := by decide +kernel
theorem dX5_bits_40 : decode cX5_bits 40 = .ok (.ireturn, 1) := by decide +kernel
set_option maxRecDepth 20000 in
theorem ggX5_named_X5_isFolder : GoodIn wsX5_named wsX5_isFolder := goodIn_r _ [6, 7, 8, 9, 5, 10, 68, 69, 70, 71, 72, 73, 74, 75, 76, 77, 78, 79, 80, 81, 82, 83, 84, 85, 86, 87] (by decide +kernel) (by decide +kernel)
set_option maxRecDepth 20000 in
theorem gX5_named_X5_isFolder : GoodIn wsX5_named (wsV RX5 88 RX5 yX5_isFolder wsX5_isFolder) := goodIn_app (goodIn_of _ (by decide +kernel)) ggX5_named_X5_isFolder
set_option maxRecDepth 20000 in
theorem ggX5_named_X5_isFine : GoodIn wsX5_named wsX5_isFine := goodIn_r _ [14, 15, 68, 69, 70, 71, 72, 73, 74, 75, 76, 77, 78, 79, 80, 81, 82, 83, 84, 85, 86, 87] (by decide +kernel) (by decide +kernel)
set_option maxRecDepth 20000 in
theorem gX5_named_X5_isFine : GoodIn wsX5_named (wsV RX5 82 RX5 yX5_isFine wsX5_isFine) := goodIn_app (goodIn_of _ (by decide +kernel)) ggX5_named_X5_isFine
set_option maxRecDepth 20000 in
theorem ggX5_named_X5_mapsBest : GoodIn wsX5_named wsX5_mapsBest := goodIn_r _ [19, 20, 21, 22, 5, 23, 24, 1, 25, 26, 27, 28, 29, 30, 31, 32, 33, 34, 35, 36, 37, 38, 39, 40, 41, 42, 43, 44, 45, 46, 47, 48, 49, 50, 51, 52, 53, 54, 55, 56, 57, 58, 59, 60, 61, 62, 63, 64, 65, 66, 67, 68, 69, 70, 71, 72, 73, 74, 75, 76, 77, 78, 79, 80, 81, 82, 83, 84, 85, 86, 87] (by decide +kernel) (by decide +kernel)
set_option maxRecDepth 20000 in
theorem gX5_named_X5_mapsBest : GoodIn wsX5_named (wsV RX5 122 RX5 yX5_mapsBest wsX5_mapsBest) := goodIn_app (goodIn_of _ (by decide +kernel)) ggX5_named_X5_mapsBest
theorem dX5_named_0 : decode cX5_named 0 = .ok (.aload_n 0, 1) := by decide +kernel
theorem dX5_named_1 : decode cX5_named 1 = .ok (.aload_n 0, 1) := by decide +kernel
theorem dX5_named_2 : decode cX5_named 2 = .ok (.iload_n 1, 1) := by decide +kernel
theorem dX5_named_3 : decode cX5_named 3 = .ok (.invokevirtual 88, 3) := by decide +kernel
theorem dX5_named_6 : decode cX5_named 6 = .ok (.ifCond .eq 7, 3) := by decide +kernel
theorem dX5_named_9 : decode cX5_named 9 = .ok (.iconst 0, 1) := by decide +kernel
theorem dX5_named_10 : decode cX5_named 10 = .ok (.goto 4, 3) := by decide +kernel
theorem dX5_named_13 : decode cX5_named 13 = .ok (.iconst 1, 1) := by decide +kernel
theorem dX5_named_14 : decode cX5_named 14 = .ok (.invokevirtual 82, 3) := by decide +kernel
theorem dX5_named_17 : decode cX5_named 17 = .ok (.ifCond .ne 5, 3) := by decide +kernel
theorem dX5_named_20 : decode cX5_named 20 = .ok (.iconst 0, 1) := by decide +kernel
theorem dX5_named_21 : decode cX5_named 21 = .ok (.ireturn, 1) := by decide +kernel
theorem dX5_named_22 : decode cX5_named 22 = .ok (.aload_n 0, 1) := by decide +kernel
theorem dX5_named_23 : decode cX5_named 23 = .ok (.iload_n 1, 1) := by decide +kernel
theorem dX5_named_24 : decode cX5_named 24 = .ok (.invokevirtual 122, 3) := by decide +kernel
theorem dX5_named_27 : decode cX5_named 27 = .ok (.pop, 1) := by decide +kernel
theorem dX5_named_28 : decode cX5_named 28 = .ok (.aload_n 0, 1) := by decide +kernel
theorem dX5_named_29 : decode cX5_named 29 = .ok (.getfield 101, 3) := by decide +kernel
theorem dX5_named_32 : decode cX5_named 32 = .ok (.ireturn, 1) := by decide +kernel
set_option maxRecDepth 20000 in
theorem ggX5_mapped_X5_isPerson : GoodIn wsX5_mapped wsX5_isPerson := goodIn_r _ [5, 6, 7, 4, 8] (by decide +kernel) (by decide +kernel)
set_option maxRecDepth 20000 in
theorem gX5_mapped_X5_isPerson : GoodIn wsX5_mapped (va_wsS RX5 79 yX5_isPerson wsX5_isPerson) := goodIn_app (goodIn_of _ (by decide +kernel)) ggX5_mapped_X5_isPerson
set_option maxRecDepth 20000 in
theorem ggX5_mapped_X5_isFolder : GoodIn wsX5_mapped wsX5_isFolder := goodIn_r _ [12, 13, 6, 7, 4, 8, 71, 72, 73, 74, 75, 76, 77, 78, 79, 80, 81, 82, 83, 84, 85, 86, 87, 88, 89, 90] (by decide +kernel) (by decide +kernel)
set_option maxRecDepth 20000 in
theorem gX5_mapped_X5_isFolder : GoodIn wsX5_mapped (wsV RX5 88 RX5 yX5_isFolder wsX5_isFolder) := goodIn_app (goodIn_of _ (by decide +kernel)) ggX5_mapped_X5_isFolder
set_option maxRecDepth 20000 in
theorem ggX5_mapped_X5_isFine : GoodIn wsX5_mapped wsX5_isFine := goodIn_r _ [17, 18, 71, 72, 73, 74, 75, 76, 77, 78, 79, 80, 81, 82, 83, 84, 85, 86, 87, 88, 89, 90] (by decide +kernel) (by decide +kernel)
set_option maxRecDepth 20000 in
theorem gX5_mapped_X5_isFine : GoodIn wsX5_mapped (wsV RX5 82 RX5 yX5_isFine wsX5_isFine) := goodIn_app (goodIn_of _ (by decide +kernel)) ggX5_mapped_X5_isFine
set_option maxRecDepth 20000 in
theorem ggX5_mapped_X5_mapsBest : GoodIn wsX5_mapped wsX5_mapsBest := goodIn_r _ [22, 23, 24, 25, 4, 26, 27, 28, 1, 29, 30, 31, 32, 33, 34, 35, 36, 37, 38, 39, 40, 41, 42, 43, 44, 45, 46, 47, 48, 49, 50, 51, 52, 53, 54, 55, 56, 57, 58, 59, 60, 61, 62, 63, 64, 65, 66, 67, 68, 69, 70, 71, 72, 73, 74, 75, 76, 77, 78, 79, 80, 81, 82, 83, 84, 85, 86, 87, 88, 89, 90] (by decide +kernel) (by decide +kernel)
set_option maxRecDepth 20000 in
theorem gX5_mapped_X5_mapsBest : GoodIn wsX5_mapped (wsV RX5 122 RX5 yX5_mapsBest wsX5_mapsBest) := goodIn_app (goodIn_of _ (by decide +kernel)) ggX5_mapped_X5_mapsBest
theorem dX5_mapped_0 : decode cX5_mapped 0 = .ok (.aload_n 0, 1) := by decide +kernel
theorem dX5_mapped_1 : decode cX5_mapped 1 = .ok (.iload_n 1, 1) := by decide +kernel
theorem dX5_mapped_2 : decode cX5_mapped 2 = .ok (.invokestatic 79, 3) := by decide +kernel
theorem dX5_mapped_5 : decode cX5_mapped 5 = .ok (.ifCond .eq 15, 3) := by decide +kernel
theorem dX5_mapped_8 : decode cX5_mapped 8 = .ok (.aload_n 0, 1) := by decide +kernel
theorem dX5_mapped_9 : decode cX5_mapped 9 = .ok (.iload_n 2, 1) := by decide +kernel
theorem dX5_mapped_10 : decode cX5_mapped 10 = .ok (.invokevirtual 88, 3) := by decide +kernel
theorem dX5_mapped_13 : decode cX5_mapped 13 = .ok (.ifCond .eq 7, 3) := by decide +kernel
theorem dX5_mapped_16 : decode cX5_mapped 16 = .ok (.iconst 0, 1) := by decide +kernel
theorem dX5_mapped_17 : decode cX5_mapped 17 = .ok (.goto 4, 3) := by decide +kernel
theorem dX5_mapped_20 : decode cX5_mapped 20 = .ok (.iconst 1, 1) := by decide +kernel
theorem dX5_mapped_21 : decode cX5_mapped 21 = .ok (.invokevirtual 82, 3) := by decide +kernel
theorem dX5_mapped_24 : decode cX5_mapped 24 = .ok (.ifCond .ne 5, 3) := by decide +kernel
theorem dX5_mapped_27 : decode cX5_mapped 27 = .ok (.iconst 0, 1) := by decide +kernel
theorem dX5_mapped_28 : decode cX5_mapped 28 = .ok (.ireturn, 1) := by decide +kernel
theorem dX5_mapped_29 : decode cX5_mapped 29 = .ok (.aload_n 0, 1) := by decide +kernel
theorem dX5_mapped_30 : decode cX5_mapped 30 = .ok (.iload_n 2, 1) := by decide +kernel
theorem dX5_mapped_31 : decode cX5_mapped 31 = .ok (.invokevirtual 122, 3) := by decide +kernel
theorem dX5_mapped_34 : decode cX5_mapped 34 = .ok (.pop, 1) := by decide +kernel
theorem dX5_mapped_35 : decode cX5_mapped 35 = .ok (.aload_n 0, 1) := by decide +kernel
theorem dX5_mapped_36 : decode cX5_mapped 36 = .ok (.getfield 48, 3) := by decide +kernel
theorem dX5_mapped_39 : decode cX5_mapped 39 = .ok (.iload_n 1, 1) := by decide +kernel
theorem dX5_mapped_40 : decode cX5_mapped 40 = .ok (.iaload, 1) := by decide +kernel
theorem dX5_mapped_41 : decode cX5_mapped 41 = .ok (.ireturn, 1) := by decide +kernel
set_option maxRecDepth 20000 in
theorem ggX5_loss_X5_isFolder : GoodIn wsX5_loss wsX5_isFolder := goodIn_r _ [5, 6, 7, 8, 4, 9, 68, 69, 70, 71, 72, 73, 74, 75, 76, 77, 78, 79, 80, 81, 82, 83, 84, 85, 86, 87] (by decide +kernel) (by decide +kernel)
set_option maxRecDepth 20000 in
theorem gX5_loss_X5_isFolder : GoodIn wsX5_loss (wsV RX5 88 RX5 yX5_isFolder wsX5_isFolder) := goodIn_app (goodIn_of _ (by decide +kernel)) ggX5_loss_X5_isFolder
set_option maxRecDepth 20000 in
theorem ggX5_loss_X5_isFine : GoodIn wsX5_loss wsX5_isFine := goodIn_r _ [13, 14, 68, 69, 70, 71, 72, 73, 74, 75, 76, 77, 78, 79, 80, 81, 82, 83, 84, 85, 86, 87] (by decide +kernel) (by decide +kernel)
set_option maxRecDepth 20000 in
theorem gX5_loss_X5_isFine : GoodIn wsX5_loss (wsV RX5 82 RX5 yX5_isFine wsX5_isFine) := goodIn_app (goodIn_of _ (by decide +kernel)) ggX5_loss_X5_isFine
set_option maxRecDepth 20000 in
theorem ggX5_loss_X5_mapsBest : GoodIn wsX5_loss wsX5_mapsBest := goodIn_r _ [18, 19, 20, 21, 4, 22, 23, 24, 25, 26, 27, 28, 29, 30, 31, 32, 33, 34, 35, 36, 37, 38, 39, 40, 41, 42, 43, 44, 45, 46, 47, 48, 49, 50, 51, 52, 53, 54, 55, 56, 57, 58, 59, 60, 61, 62, 63, 64, 65, 66, 67, 68, 69, 70, 71, 72, 73, 74, 75, 76, 77, 78, 79, 80, 81, 82, 83, 84, 85, 86, 87] (by decide +kernel) (by decide +kernel)
set_option maxRecDepth 20000 in
theorem gX5_loss_X5_mapsBest : GoodIn wsX5_loss (wsV RX5 122 RX5 yX5_mapsBest wsX5_mapsBest) := goodIn_app (goodIn_of _ (by decide +kernel)) ggX5_loss_X5_mapsBest
set_option maxRecDepth 20000 in
theorem ggX5_loss_X5_maps : GoodIn wsX5_loss wsX5_maps := goodIn_r _ [22, 23, 24, 25, 26, 27, 28, 4, 29, 30, 31, 32, 33, 34, 35, 36, 37, 38, 39, 40, 41, 42, 43, 44, 45, 46, 47, 48, 49, 50, 51, 52, 53, 54, 55, 56, 57, 58, 59, 60, 61, 62, 63, 64, 65, 66, 67, 68, 69, 70, 71, 72, 73, 74, 75, 76, 77, 78, 79, 80, 81, 82, 83, 84, 85, 86, 87] (by decide +kernel) (by decide +kernel)
set_option maxRecDepth 20000 in
theorem gX5_loss_X5_maps : GoodIn wsX5_loss (wsV RX5 119 RX5 yX5_maps wsX5_maps) := goodIn_app (goodIn_of _ (by decide +kernel)) ggX5_loss_X5_maps
theorem dX5_loss_0 : decode cX5_loss 0 = .ok (.aload_n 0, 1) := by decide +kernel
theorem dX5_loss_1 : decode cX5_loss 1 = .ok (.aload_n 0, 1) := by decide +kernel
theorem dX5_loss_2 : decode cX5_loss 2 = .ok (.iload_n 1, 1) := by decide +kernel
theorem dX5_loss_3 : decode cX5_loss 3 = .ok (.invokevirtual 88, 3) := by decide +kernel
theorem dX5_loss_6 : decode cX5_loss 6 = .ok (.ifCond .eq 7, 3) := by decide +kernel
theorem dX5_loss_9 : decode cX5_loss 9 = .ok (.iconst 0, 1) := by decide +kernel
theorem dX5_loss_10 : decode cX5_loss 10 = .ok (.goto 4, 3) := by decide +kernel
theorem dX5_loss_13 : decode cX5_loss 13 = .ok (.iconst 1, 1) := by decide +kernel
theorem dX5_loss_14 : decode cX5_loss 14 = .ok (.invokevirtual 82, 3) := by decide +kernel
theorem dX5_loss_17 : decode cX5_loss 17 = .ok (.ifCond .eq 16, 3) := by decide +kernel
theorem dX5_loss_20 : decode cX5_loss 20 = .ok (.aload_n 0, 1) := by decide +kernel
theorem dX5_loss_21 : decode cX5_loss 21 = .ok (.iload_n 1, 1) := by decide +kernel
theorem dX5_loss_22 : decode cX5_loss 22 = .ok (.aload_n 0, 1) := by decide +kernel
theorem dX5_loss_23 : decode cX5_loss 23 = .ok (.iload_n 1, 1) := by decide +kernel
theorem dX5_loss_24 : decode cX5_loss 24 = .ok (.invokevirtual 122, 3) := by decide +kernel
theorem dX5_loss_27 : decode cX5_loss 27 = .ok (.invokevirtual 119, 3) := by decide +kernel
theorem dX5_loss_30 : decode cX5_loss 30 = .ok (.goto 4, 3) := by decide +kernel
theorem dX5_loss_33 : decode cX5_loss 33 = .ok (.iconst 0, 1) := by decide +kernel
theorem dX5_loss_34 : decode cX5_loss 34 = .ok (.ireturn, 1) := by decide +kernel
set_option maxRecDepth 20000 in
theorem ggX5_lossWith_X5_isFolder : GoodIn wsX5_lossWith wsX5_isFolder := goodIn_r _ [5, 6, 7, 8, 4, 9, 64, 65, 66, 67, 68, 69, 70, 71, 72, 73, 74, 75, 76, 77, 78, 79, 80, 81, 82, 83] (by decide +kernel) (by decide +kernel)
set_option maxRecDepth 20000 in
theorem gX5_lossWith_X5_isFolder : GoodIn wsX5_lossWith (wsV RX5 88 RX5 yX5_isFolder wsX5_isFolder) := goodIn_app (goodIn_of _ (by decide +kernel)) ggX5_lossWith_X5_isFolder
set_option maxRecDepth 20000 in
theorem ggX5_lossWith_X5_in : GoodIn wsX5_lossWith wsX5_in := goodIn_r _ [9] (by decide +kernel) (by decide +kernel)
set_option maxRecDepth 20000 in
theorem gX5_lossWith_X5_in : GoodIn wsX5_lossWith (va_wsS RX5 63 yX5_in wsX5_in) := goodIn_app (goodIn_of _ (by decide +kernel)) ggX5_lossWith_X5_in
set_option maxRecDepth 20000 in
theorem ggX5_lossWith_X5_isFine : GoodIn wsX5_lossWith wsX5_isFine := goodIn_r _ [13, 14, 64, 65, 66, 67, 68, 69, 70, 71, 72, 73, 74, 75, 76, 77, 78, 79, 80, 81, 82, 83] (by decide +kernel) (by decide +kernel)
set_option maxRecDepth 20000 in
theorem gX5_lossWith_X5_isFine : GoodIn wsX5_lossWith (wsV RX5 82 RX5 yX5_isFine wsX5_isFine) := goodIn_app (goodIn_of _ (by decide +kernel)) ggX5_lossWith_X5_isFine
set_option maxRecDepth 20000 in
theorem ggX5_lossWith_X5_maps : GoodIn wsX5_lossWith wsX5_maps := goodIn_r _ [18, 19, 20, 21, 22, 23, 24, 4, 25, 26, 27, 28, 29, 30, 31, 32, 33, 34, 35, 36, 37, 38, 39, 40, 41, 42, 43, 44, 45, 46, 47, 48, 49, 50, 51, 52, 53, 54, 55, 56, 57, 58, 59, 60, 61, 62, 63, 64, 65, 66, 67, 68, 69, 70, 71, 72, 73, 74, 75, 76, 77, 78, 79, 80, 81, 82, 83] (by decide +kernel) (by decide +kernel)
set_option maxRecDepth 20000 in
theorem gX5_lossWith_X5_maps : GoodIn wsX5_lossWith (wsV RX5 119 RX5 yX5_maps wsX5_maps) := goodIn_app (goodIn_of _ (by decide +kernel)) ggX5_lossWith_X5_maps
theorem dX5_lossWith_0 : decode cX5_lossWith 0 = .ok (.aload_n 0, 1) := by decide +kernel
theorem dX5_lossWith_1 : decode cX5_lossWith 1 = .ok (.aload_n 0, 1) := by decide +kernel
theorem dX5_lossWith_2 : decode cX5_lossWith 2 = .ok (.iload_n 1, 1) := by decide +kernel
theorem dX5_lossWith_3 : decode cX5_lossWith 3 = .ok (.invokevirtual 88, 3) := by decide +kernel
theorem dX5_lossWith_6 : decode cX5_lossWith 6 = .ok (.ifCond .eq 16, 3) := by decide +kernel
theorem dX5_lossWith_9 : decode cX5_lossWith 9 = .ok (.iload_n 2, 1) := by decide +kernel
theorem dX5_lossWith_10 : decode cX5_lossWith 10 = .ok (.iconst (-1), 1) := by decide +kernel
theorem dX5_lossWith_11 : decode cX5_lossWith 11 = .ok (.iconst 5, 1) := by decide +kernel
theorem dX5_lossWith_12 : decode cX5_lossWith 12 = .ok (.invokestatic 63, 3) := by decide +kernel
theorem dX5_lossWith_15 : decode cX5_lossWith 15 = .ok (.ifCond .eq 7, 3) := by decide +kernel
theorem dX5_lossWith_18 : decode cX5_lossWith 18 = .ok (.iconst 0, 1) := by decide +kernel
theorem dX5_lossWith_19 : decode cX5_lossWith 19 = .ok (.goto 4, 3) := by decide +kernel
theorem dX5_lossWith_22 : decode cX5_lossWith 22 = .ok (.iconst 1, 1) := by decide +kernel
theorem dX5_lossWith_23 : decode cX5_lossWith 23 = .ok (.invokevirtual 82, 3) := by decide +kernel
theorem dX5_lossWith_26 : decode cX5_lossWith 26 = .ok (.ifCond .eq 12, 3) := by decide +kernel
theorem dX5_lossWith_29 : decode cX5_lossWith 29 = .ok (.aload_n 0, 1) := by decide +kernel
theorem dX5_lossWith_30 : decode cX5_lossWith 30 = .ok (.iload_n 1, 1) := by decide +kernel
theorem dX5_lossWith_31 : decode cX5_lossWith 31 = .ok (.iload_n 2, 1) := by decide +kernel
theorem dX5_lossWith_32 : decode cX5_lossWith 32 = .ok (.invokevirtual 119, 3) := by decide +kernel
theorem dX5_lossWith_35 : decode cX5_lossWith 35 = .ok (.goto 4, 3) := by decide +kernel
theorem dX5_lossWith_38 : decode cX5_lossWith 38 = .ok (.iconst 0, 1) := by decide +kernel
theorem dX5_lossWith_39 : decode cX5_lossWith 39 = .ok (.ireturn, 1) := by decide +kernel
set_option maxRecDepth 20000 in
theorem ggX5_pass_X5_mapsBest : GoodIn wsX5_pass wsX5_mapsBest := goodIn_r _ [10, 11, 12, 13, 9, 14, 15, 16, 5, 17, 18, 19, 20, 21, 22, 23, 24, 25, 26, 27, 28, 29, 30, 31, 32, 33, 34, 35, 36, 37, 38, 39, 40, 41, 42, 43, 44, 45, 46, 47, 48, 49, 50, 51, 52, 53, 54, 55, 56, 57, 58, 59, 60, 61, 62, 63, 64, 65, 66, 67, 68, 69, 70, 71, 72, 73, 74, 75, 76, 77, 78] (by decide +kernel) (by decide +kernel)
set_option maxRecDepth 20000 in
theorem gX5_pass_X5_mapsBest : GoodIn wsX5_pass (wsV RX5 122 RX5 yX5_mapsBest wsX5_mapsBest) := goodIn_app (goodIn_of _ (by decide +kernel)) ggX5_pass_X5_mapsBest
theorem dX5_pass_0 : decode cX5_pass 0 = .ok (.aload_n 0, 1) := by decide +kernel
theorem dX5_pass_1 : decode cX5_pass 1 = .ok (.iconst 0, 1) := by decide +kernel
theorem dX5_pass_2 : decode cX5_pass 2 = .ok (.putfield 60, 3) := by decide +kernel
theorem dX5_pass_5 : decode cX5_pass 5 = .ok (.iconst 0, 1) := by decide +kernel
theorem dX5_pass_6 : decode cX5_pass 6 = .ok (.istore_n 1, 1) := by decide +kernel
theorem dX5_pass_7 : decode cX5_pass 7 = .ok (.iconst 0, 1) := by decide +kernel
theorem dX5_pass_8 : decode cX5_pass 8 = .ok (.istore_n 2, 1) := by decide +kernel
theorem dX5_pass_9 : decode cX5_pass 9 = .ok (.iload_n 2, 1) := by decide +kernel
theorem dX5_pass_10 : decode cX5_pass 10 = .ok (.aload_n 0, 1) := by decide +kernel
theorem dX5_pass_11 : decode cX5_pass 11 = .ok (.getfield 29, 3) := by decide +kernel
theorem dX5_pass_14 : decode cX5_pass 14 = .ok (.if_icmp .ge 116, 3) := by decide +kernel
theorem dX5_pass_17 : decode cX5_pass 17 = .ok (.aload_n 0, 1) := by decide +kernel
theorem dX5_pass_18 : decode cX5_pass 18 = .ok (.iload_n 2, 1) := by decide +kernel
theorem dX5_pass_19 : decode cX5_pass 19 = .ok (.invokevirtual 122, 3) := by decide +kernel
theorem dX5_pass_22 : decode cX5_pass 22 = .ok (.pop, 1) := by decide +kernel
theorem dX5_pass_23 : decode cX5_pass 23 = .ok (.aload_n 0, 1) := by decide +kernel
theorem dX5_pass_24 : decode cX5_pass 24 = .ok (.getfield 51, 3) := by decide +kernel
theorem dX5_pass_27 : decode cX5_pass 27 = .ok (.iload_n 2, 1) := by decide +kernel
theorem dX5_pass_28 : decode cX5_pass 28 = .ok (.baload, 1) := by decide +kernel
theorem dX5_pass_29 : decode cX5_pass 29 = .ok (.ifCond .ne 7, 3) := by decide +kernel
theorem dX5_pass_32 : decode cX5_pass 32 = .ok (.iconst 1, 1) := by decide +kernel
theorem dX5_pass_33 : decode cX5_pass 33 = .ok (.goto 4, 3) := by decide +kernel
theorem dX5_pass_36 : decode cX5_pass 36 = .ok (.iconst 0, 1) := by decide +kernel
theorem dX5_pass_37 : decode cX5_pass 37 = .ok (.istore_n 3, 1) := by decide +kernel
theorem dX5_pass_38 : decode cX5_pass 38 = .ok (.iconst 0, 1) := by decide +kernel
theorem dX5_pass_39 : decode cX5_pass 39 = .ok (.istore 4, 2) := by decide +kernel
theorem dX5_pass_41 : decode cX5_pass 41 = .ok (.iload 4, 2) := by decide +kernel
theorem dX5_pass_43 : decode cX5_pass 43 = .ok (.bipush 8, 2) := by decide +kernel
theorem dX5_pass_45 : decode cX5_pass 45 = .ok (.if_icmp .ge 60, 3) := by decide +kernel
theorem dX5_pass_48 : decode cX5_pass 48 = .ok (.iload_n 3, 1) := by decide +kernel
theorem dX5_pass_49 : decode cX5_pass 49 = .ok (.ifCond .ne 25, 3) := by decide +kernel
theorem dX5_pass_52 : decode cX5_pass 52 = .ok (.aload_n 0, 1) := by decide +kernel
theorem dX5_pass_53 : decode cX5_pass 53 = .ok (.getfield 54, 3) := by decide +kernel
theorem dX5_pass_56 : decode cX5_pass 56 = .ok (.bipush 8, 2) := by decide +kernel
theorem dX5_pass_58 : decode cX5_pass 58 = .ok (.iload_n 2, 1) := by decide +kernel
theorem dX5_pass_59 : decode cX5_pass 59 = .ok (.imul, 1) := by decide +kernel
theorem dX5_pass_60 : decode cX5_pass 60 = .ok (.iload 4, 2) := by decide +kernel
theorem dX5_pass_62 : decode cX5_pass 62 = .ok (.iadd, 1) := by decide +kernel
theorem dX5_pass_63 : decode cX5_pass 63 = .ok (.iaload, 1) := by decide +kernel
theorem dX5_pass_64 : decode cX5_pass 64 = .ok (.aload_n 0, 1) := by decide +kernel
theorem dX5_pass_65 : decode cX5_pass 65 = .ok (.getfield 48, 3) := by decide +kernel
theorem dX5_pass_68 : decode cX5_pass 68 = .ok (.iload 4, 2) := by decide +kernel
theorem dX5_pass_70 : decode cX5_pass 70 = .ok (.iaload, 1) := by decide +kernel
theorem dX5_pass_71 : decode cX5_pass 71 = .ok (.if_icmp .eq 7, 3) := by decide +kernel
theorem dX5_pass_74 : decode cX5_pass 74 = .ok (.iconst 1, 1) := by decide +kernel
theorem dX5_pass_75 : decode cX5_pass 75 = .ok (.goto 4, 3) := by decide +kernel
theorem dX5_pass_78 : decode cX5_pass 78 = .ok (.iconst 0, 1) := by decide +kernel
theorem dX5_pass_79 : decode cX5_pass 79 = .ok (.istore_n 3, 1) := by decide +kernel
theorem dX5_pass_80 : decode cX5_pass 80 = .ok (.aload_n 0, 1) := by decide +kernel
theorem dX5_pass_81 : decode cX5_pass 81 = .ok (.getfield 54, 3) := by decide +kernel
theorem dX5_pass_84 : decode cX5_pass 84 = .ok (.bipush 8, 2) := by decide +kernel
theorem dX5_pass_86 : decode cX5_pass 86 = .ok (.iload_n 2, 1) := by decide +kernel
theorem dX5_pass_87 : decode cX5_pass 87 = .ok (.imul, 1) := by decide +kernel
theorem dX5_pass_88 : decode cX5_pass 88 = .ok (.iload 4, 2) := by decide +kernel
theorem dX5_pass_90 : decode cX5_pass 90 = .ok (.iadd, 1) := by decide +kernel
theorem dX5_pass_91 : decode cX5_pass 91 = .ok (.aload_n 0, 1) := by decide +kernel
theorem dX5_pass_92 : decode cX5_pass 92 = .ok (.getfield 48, 3) := by decide +kernel
theorem dX5_pass_95 : decode cX5_pass 95 = .ok (.iload 4, 2) := by decide +kernel
theorem dX5_pass_97 : decode cX5_pass 97 = .ok (.iaload, 1) := by decide +kernel
theorem dX5_pass_98 : decode cX5_pass 98 = .ok (.iastore, 1) := by decide +kernel
theorem dX5_pass_99 : decode cX5_pass 99 = .ok (.iinc 4 1, 3) := by decide +kernel
theorem dX5_pass_102 : decode cX5_pass 102 = .ok (.goto (-61), 3) := by decide +kernel
theorem dX5_pass_105 : decode cX5_pass 105 = .ok (.aload_n 0, 1) := by decide +kernel
theorem dX5_pass_106 : decode cX5_pass 106 = .ok (.getfield 51, 3) := by decide +kernel
theorem dX5_pass_109 : decode cX5_pass 109 = .ok (.iload_n 2, 1) := by decide +kernel
theorem dX5_pass_110 : decode cX5_pass 110 = .ok (.iconst 1, 1) := by decide +kernel
theorem dX5_pass_111 : decode cX5_pass 111 = .ok (.bastore, 1) := by decide +kernel
theorem dX5_pass_112 : decode cX5_pass 112 = .ok (.iload_n 1, 1) := by decide +kernel
theorem dX5_pass_113 : decode cX5_pass 113 = .ok (.iload_n 3, 1) := by decide +kernel
theorem dX5_pass_114 : decode cX5_pass 114 = .ok (.ifCond .eq 7, 3) := by decide +kernel
theorem dX5_pass_117 : decode cX5_pass 117 = .ok (.iconst 1, 1) := by decide +kernel
theorem dX5_pass_118 : decode cX5_pass 118 = .ok (.goto 4, 3) := by decide +kernel
theorem dX5_pass_121 : decode cX5_pass 121 = .ok (.iconst 0, 1) := by decide +kernel
theorem dX5_pass_122 : decode cX5_pass 122 = .ok (.iadd, 1) := by decide +kernel
theorem dX5_pass_123 : decode cX5_pass 123 = .ok (.istore_n 1, 1) := by decide +kernel
theorem dX5_pass_124 : decode cX5_pass 124 = .ok (.iinc 2 1, 3) := by decide +kernel
theorem dX5_pass_127 : decode cX5_pass 127 = .ok (.goto (-118), 3) := by decide +kernel
theorem dX5_pass_130 : decode cX5_pass 130 = .ok (.iload_n 1, 1) := by decide +kernel
theorem dX5_pass_131 : decode cX5_pass 131 = .ok (.ireturn, 1) := by decide +kernel
set_option maxRecDepth 20000 in
theorem ggX5_isFresh_X5_isFolder : GoodIn wsX5_isFresh wsX5_isFolder := goodIn_r _ [8, 9, 10, 11, 7, 12, 70, 71, 72, 73, 74, 75, 76, 77, 78, 79, 80, 81, 82, 83, 84, 85, 86, 87, 88, 89] (by decide +kernel) (by decide +kernel)
set_option maxRecDepth 20000 in
theorem gX5_isFresh_X5_isFolder : GoodIn wsX5_isFresh (wsV RX5 88 RX5 yX5_isFolder wsX5_isFolder) := goodIn_app (goodIn_of _ (by decide +kernel)) ggX5_isFresh_X5_isFolder
set_option maxRecDepth 20000 in
theorem ggX5_isFresh_X5_isFine : GoodIn wsX5_isFresh wsX5_isFine := goodIn_r _ [16, 17, 70, 71, 72, 73, 74, 75, 76, 77, 78, 79, 80, 81, 82, 83, 84, 85, 86, 87, 88, 89] (by decide +kernel) (by decide +kernel)
set_option maxRecDepth 20000 in
theorem gX5_isFresh_X5_isFine : GoodIn wsX5_isFresh (wsV RX5 82 RX5 yX5_isFine wsX5_isFine) := goodIn_app (goodIn_of _ (by decide +kernel)) ggX5_isFresh_X5_isFine
set_option maxRecDepth 20000 in
theorem ggX5_isFresh_X5_mapsBest : GoodIn wsX5_isFresh wsX5_mapsBest := goodIn_r _ [21, 22, 23, 24, 7, 25, 26, 27, 3, 28, 29, 30, 31, 32, 33, 34, 35, 36, 37, 38, 39, 40, 41, 42, 43, 44, 45, 46, 47, 48, 49, 50, 51, 52, 53, 54, 55, 56, 57, 58, 59, 60, 61, 62, 63, 64, 65, 66, 67, 68, 69, 70, 71, 72, 73, 74, 75, 76, 77, 78, 79, 80, 81, 82, 83, 84, 85, 86, 87, 88, 89] (by decide +kernel) (by decide +kernel)
set_option maxRecDepth 20000 in
theorem gX5_isFresh_X5_mapsBest : GoodIn wsX5_isFresh (wsV RX5 122 RX5 yX5_mapsBest wsX5_mapsBest) := goodIn_app (goodIn_of _ (by decide +kernel)) ggX5_isFresh_X5_mapsBest
theorem dX5_isFresh_0 : decode cX5_isFresh 0 = .ok (.aload_n 0, 1) := by decide +kernel
theorem dX5_isFresh_1 : decode cX5_isFresh 1 = .ok (.aload_n 0, 1) := by decide +kernel
theorem dX5_isFresh_2 : decode cX5_isFresh 2 = .ok (.iload_n 1, 1) := by decide +kernel
theorem dX5_isFresh_3 : decode cX5_isFresh 3 = .ok (.invokevirtual 88, 3) := by decide +kernel
theorem dX5_isFresh_6 : decode cX5_isFresh 6 = .ok (.ifCond .eq 7, 3) := by decide +kernel
theorem dX5_isFresh_9 : decode cX5_isFresh 9 = .ok (.iconst 0, 1) := by decide +kernel
theorem dX5_isFresh_10 : decode cX5_isFresh 10 = .ok (.goto 4, 3) := by decide +kernel
theorem dX5_isFresh_13 : decode cX5_isFresh 13 = .ok (.iconst 1, 1) := by decide +kernel
theorem dX5_isFresh_14 : decode cX5_isFresh 14 = .ok (.invokevirtual 82, 3) := by decide +kernel
theorem dX5_isFresh_17 : decode cX5_isFresh 17 = .ok (.ifCond .ne 5, 3) := by decide +kernel
theorem dX5_isFresh_20 : decode cX5_isFresh 20 = .ok (.iconst 0, 1) := by decide +kernel
theorem dX5_isFresh_21 : decode cX5_isFresh 21 = .ok (.ireturn, 1) := by decide +kernel
theorem dX5_isFresh_22 : decode cX5_isFresh 22 = .ok (.aload_n 0, 1) := by decide +kernel
theorem dX5_isFresh_23 : decode cX5_isFresh 23 = .ok (.iload_n 1, 1) := by decide +kernel
theorem dX5_isFresh_24 : decode cX5_isFresh 24 = .ok (.invokevirtual 122, 3) := by decide +kernel
theorem dX5_isFresh_27 : decode cX5_isFresh 27 = .ok (.pop, 1) := by decide +kernel
theorem dX5_isFresh_28 : decode cX5_isFresh 28 = .ok (.aload_n 0, 1) := by decide +kernel
theorem dX5_isFresh_29 : decode cX5_isFresh 29 = .ok (.getfield 51, 3) := by decide +kernel
theorem dX5_isFresh_32 : decode cX5_isFresh 32 = .ok (.iload_n 1, 1) := by decide +kernel
theorem dX5_isFresh_33 : decode cX5_isFresh 33 = .ok (.baload, 1) := by decide +kernel
theorem dX5_isFresh_34 : decode cX5_isFresh 34 = .ok (.istore_n 2, 1) := by decide +kernel
theorem dX5_isFresh_35 : decode cX5_isFresh 35 = .ok (.iconst 0, 1) := by decide +kernel
theorem dX5_isFresh_36 : decode cX5_isFresh 36 = .ok (.istore_n 3, 1) := by decide +kernel
theorem dX5_isFresh_37 : decode cX5_isFresh 37 = .ok (.iload_n 3, 1) := by decide +kernel
theorem dX5_isFresh_38 : decode cX5_isFresh 38 = .ok (.bipush 8, 2) := by decide +kernel
theorem dX5_isFresh_40 : decode cX5_isFresh 40 = .ok (.if_icmp .ge 39, 3) := by decide +kernel
theorem dX5_isFresh_43 : decode cX5_isFresh 43 = .ok (.iload_n 2, 1) := by decide +kernel
theorem dX5_isFresh_44 : decode cX5_isFresh 44 = .ok (.ifCond .eq 27, 3) := by decide +kernel
theorem dX5_isFresh_47 : decode cX5_isFresh 47 = .ok (.aload_n 0, 1) := by decide +kernel
theorem dX5_isFresh_48 : decode cX5_isFresh 48 = .ok (.getfield 54, 3) := by decide +kernel
theorem dX5_isFresh_51 : decode cX5_isFresh 51 = .ok (.bipush 8, 2) := by decide +kernel
theorem dX5_isFresh_53 : decode cX5_isFresh 53 = .ok (.iload_n 1, 1) := by decide +kernel
theorem dX5_isFresh_54 : decode cX5_isFresh 54 = .ok (.imul, 1) := by decide +kernel
theorem dX5_isFresh_55 : decode cX5_isFresh 55 = .ok (.iload_n 3, 1) := by decide +kernel
theorem dX5_isFresh_56 : decode cX5_isFresh 56 = .ok (.iadd, 1) := by decide +kernel
theorem dX5_isFresh_57 : decode cX5_isFresh 57 = .ok (.iaload, 1) := by decide +kernel
theorem dX5_isFresh_58 : decode cX5_isFresh 58 = .ok (.aload_n 0, 1) := by decide +kernel
theorem dX5_isFresh_59 : decode cX5_isFresh 59 = .ok (.getfield 48, 3) := by decide +kernel
theorem dX5_isFresh_62 : decode cX5_isFresh 62 = .ok (.iload_n 3, 1) := by decide +kernel
theorem dX5_isFresh_63 : decode cX5_isFresh 63 = .ok (.iaload, 1) := by decide +kernel
theorem dX5_isFresh_64 : decode cX5_isFresh 64 = .ok (.if_icmp .ne 7, 3) := by decide +kernel
theorem dX5_isFresh_67 : decode cX5_isFresh 67 = .ok (.iconst 1, 1) := by decide +kernel
theorem dX5_isFresh_68 : decode cX5_isFresh 68 = .ok (.goto 4, 3) := by decide +kernel
theorem dX5_isFresh_71 : decode cX5_isFresh 71 = .ok (.iconst 0, 1) := by decide +kernel
theorem dX5_isFresh_72 : decode cX5_isFresh 72 = .ok (.istore_n 2, 1) := by decide +kernel
theorem dX5_isFresh_73 : decode cX5_isFresh 73 = .ok (.iinc 3 1, 3) := by decide +kernel
theorem dX5_isFresh_76 : decode cX5_isFresh 76 = .ok (.goto (-39), 3) := by decide +kernel
theorem dX5_isFresh_79 : decode cX5_isFresh 79 = .ok (.iload_n 2, 1) := by decide +kernel
theorem dX5_isFresh_80 : decode cX5_isFresh 80 = .ok (.ireturn, 1) := by decide +kernel
set_option maxRecDepth 20000 in
theorem ggX5_turn_X5_isFolder : GoodIn wsX5_turn wsX5_isFolder := goodIn_r _ [7, 8, 9, 10, 6, 11, 17, 18, 19, 20, 21, 22, 23, 24, 25, 26, 27, 28, 29, 30, 31, 32, 33, 34, 35, 36] (by decide +kernel) (by decide +kernel)
set_option maxRecDepth 20000 in
theorem gX5_turn_X5_isFolder : GoodIn wsX5_turn (wsV RX5 88 RX5 yX5_isFolder wsX5_isFolder) := goodIn_app (goodIn_of _ (by decide +kernel)) ggX5_turn_X5_isFolder
set_option maxRecDepth 20000 in
theorem ggX5_turn_X5_isFine : GoodIn wsX5_turn wsX5_isFine := goodIn_r _ [15, 16, 17, 18, 19, 20, 21, 22, 23, 24, 25, 26, 27, 28, 29, 30, 31, 32, 33, 34, 35, 36] (by decide +kernel) (by decide +kernel)
set_option maxRecDepth 20000 in
theorem gX5_turn_X5_isFine : GoodIn wsX5_turn (wsV RX5 82 RX5 yX5_isFine wsX5_isFine) := goodIn_app (goodIn_of _ (by decide +kernel)) ggX5_turn_X5_isFine
end
section
theorem dX5_turn_0 : decode cX5_turn 0 = .ok (.aload_n 0, 1) := by decide +kernel
theorem dX5_turn_1 : decode cX5_turn 1 = .ok (.aload_n 0, 1) := by decide +kernel
theorem dX5_turn_2 : decode cX5_turn 2 = .ok (.iload_n 1, 1) := by decide +kernel
theorem dX5_turn_3 : decode cX5_turn 3 = .ok (.invokevirtual 88, 3) := by decide +kernel
theorem dX5_turn_6 : decode cX5_turn 6 = .ok (.ifCond .ne 7, 3) := by decide +kernel
theorem dX5_turn_9 : decode cX5_turn 9 = .ok (.iconst 1, 1) := by decide +kernel
theorem dX5_turn_10 : decode cX5_turn 10 = .ok (.goto 17, 3) := by decide +kernel
theorem dX5_turn_13 : decode cX5_turn 13 = .ok (.aload_n 0, 1) := by decide +kernel
theorem dX5_turn_14 : decode cX5_turn 14 = .ok (.getfield 51, 3) := by decide +kernel
theorem dX5_turn_17 : decode cX5_turn 17 = .ok (.iload_n 1, 1) := by decide +kernel
theorem dX5_turn_18 : decode cX5_turn 18 = .ok (.baload, 1) := by decide +kernel
theorem dX5_turn_19 : decode cX5_turn 19 = .ok (.ifCond .ne 7, 3) := by decide +kernel
theorem dX5_turn_22 : decode cX5_turn 22 = .ok (.iconst 2, 1) := by decide +kernel
theorem dX5_turn_23 : decode cX5_turn 23 = .ok (.goto 4, 3) := by decide +kernel
theorem dX5_turn_26 : decode cX5_turn 26 = .ok (.iconst 0, 1) := by decide +kernel
theorem dX5_turn_27 : decode cX5_turn 27 = .ok (.invokevirtual 82, 3) := by decide +kernel
theorem dX5_turn_30 : decode cX5_turn 30 = .ok (.ifCond .ne 5, 3) := by decide +kernel
theorem dX5_turn_33 : decode cX5_turn 33 = .ok (.iconst 0, 1) := by decide +kernel
theorem dX5_turn_34 : decode cX5_turn 34 = .ok (.ireturn, 1) := by decide +kernel
theorem dX5_turn_35 : decode cX5_turn 35 = .ok (.aload_n 0, 1) := by decide +kernel
theorem dX5_turn_36 : decode cX5_turn 36 = .ok (.getfield 57, 3) := by decide +kernel
theorem dX5_turn_39 : decode cX5_turn 39 = .ok (.iload_n 1, 1) := by decide +kernel
theorem dX5_turn_40 : decode cX5_turn 40 = .ok (.aload_n 0, 1) := by decide +kernel
theorem dX5_turn_41 : decode cX5_turn 41 = .ok (.getfield 57, 3) := by decide +kernel
theorem dX5_turn_44 : decode cX5_turn 44 = .ok (.iload_n 1, 1) := by decide +kernel
theorem dX5_turn_45 : decode cX5_turn 45 = .ok (.baload, 1) := by decide +kernel
theorem dX5_turn_46 : decode cX5_turn 46 = .ok (.ifCond .ne 7, 3) := by decide +kernel
theorem dX5_turn_49 : decode cX5_turn 49 = .ok (.iconst 1, 1) := by decide +kernel
theorem dX5_turn_50 : decode cX5_turn 50 = .ok (.goto 4, 3) := by decide +kernel
theorem dX5_turn_53 : decode cX5_turn 53 = .ok (.iconst 0, 1) := by decide +kernel
theorem dX5_turn_54 : decode cX5_turn 54 = .ok (.bastore, 1) := by decide +kernel
theorem dX5_turn_55 : decode cX5_turn 55 = .ok (.aload_n 0, 1) := by decide +kernel
theorem dX5_turn_56 : decode cX5_turn 56 = .ok (.getfield 57, 3) := by decide +kernel
theorem dX5_turn_59 : decode cX5_turn 59 = .ok (.iload_n 1, 1) := by decide +kernel
theorem dX5_turn_60 : decode cX5_turn 60 = .ok (.baload, 1) := by decide +kernel
theorem dX5_turn_61 : decode cX5_turn 61 = .ok (.ireturn, 1) := by decide +kernel
set_option maxRecDepth 20000 in
theorem ggX5_now_X5_rightsOf : GoodIn wsX5_now wsX5_rightsOf := goodIn_r _ [7, 8, 9, 10, 11, 12, 13, 14, 15, 16, 17, 6, 18, 19, 20, 21, 22, 23, 24, 25, 26, 27, 28, 29, 30, 31, 32, 33, 34, 35, 36, 37, 38, 39, 40, 41, 42, 43, 44, 45, 46, 47, 48, 49, 50, 51, 52] (by decide +kernel) (by decide +kernel)
set_option maxRecDepth 20000 in
theorem gX5_now_X5_rightsOf : GoodIn wsX5_now (wsV RX5 94 RX5 yX5_rightsOf wsX5_rightsOf) := goodIn_app (goodIn_of _ (by decide +kernel)) ggX5_now_X5_rightsOf
theorem dX5_now_0 : decode cX5_now 0 = .ok (.aload_n 0, 1) := by decide +kernel
theorem dX5_now_1 : decode cX5_now 1 = .ok (.getfield 57, 3) := by decide +kernel
theorem dX5_now_4 : decode cX5_now 4 = .ok (.iload_n 2, 1) := by decide +kernel
theorem dX5_now_5 : decode cX5_now 5 = .ok (.baload, 1) := by decide +kernel
theorem dX5_now_6 : decode cX5_now 6 = .ok (.ifCond .eq 17, 3) := by decide +kernel
theorem dX5_now_9 : decode cX5_now 9 = .ok (.aload_n 0, 1) := by decide +kernel
theorem dX5_now_10 : decode cX5_now 10 = .ok (.getfield 54, 3) := by decide +kernel
theorem dX5_now_13 : decode cX5_now 13 = .ok (.bipush 8, 2) := by decide +kernel
theorem dX5_now_15 : decode cX5_now 15 = .ok (.iload_n 2, 1) := by decide +kernel
theorem dX5_now_16 : decode cX5_now 16 = .ok (.imul, 1) := by decide +kernel
theorem dX5_now_17 : decode cX5_now 17 = .ok (.iload_n 1, 1) := by decide +kernel
theorem dX5_now_18 : decode cX5_now 18 = .ok (.iadd, 1) := by decide +kernel
theorem dX5_now_19 : decode cX5_now 19 = .ok (.iaload, 1) := by decide +kernel
theorem dX5_now_20 : decode cX5_now 20 = .ok (.goto 9, 3) := by decide +kernel
theorem dX5_now_23 : decode cX5_now 23 = .ok (.aload_n 0, 1) := by decide +kernel
theorem dX5_now_24 : decode cX5_now 24 = .ok (.iload_n 1, 1) := by decide +kernel
theorem dX5_now_25 : decode cX5_now 25 = .ok (.iload_n 2, 1) := by decide +kernel
theorem dX5_now_26 : decode cX5_now 26 = .ok (.invokevirtual 94, 3) := by decide +kernel
theorem dX5_now_29 : decode cX5_now 29 = .ok (.ireturn, 1) := by decide +kernel
set_option maxRecDepth 20000 in
theorem ggX5_rightsNow_X5_isPerson : GoodIn wsX5_rightsNow wsX5_isPerson := goodIn_r _ [4, 5, 6, 3, 7] (by decide +kernel) (by decide +kernel)
set_option maxRecDepth 20000 in
theorem gX5_rightsNow_X5_isPerson : GoodIn wsX5_rightsNow (va_wsS RX5 79 yX5_isPerson wsX5_isPerson) := goodIn_app (goodIn_of _ (by decide +kernel)) ggX5_rightsNow_X5_isPerson
set_option maxRecDepth 20000 in
theorem ggX5_rightsNow_X5_isFolder : GoodIn wsX5_rightsNow wsX5_isFolder := goodIn_r _ [11, 12, 5, 6, 3, 7, 53, 54, 55, 56, 57, 58, 59, 60, 61, 62, 63, 64, 65, 66, 67, 68, 69, 70, 71, 72] (by decide +kernel) (by decide +kernel)
set_option maxRecDepth 20000 in
theorem gX5_rightsNow_X5_isFolder : GoodIn wsX5_rightsNow (wsV RX5 88 RX5 yX5_isFolder wsX5_isFolder) := goodIn_app (goodIn_of _ (by decide +kernel)) ggX5_rightsNow_X5_isFolder
set_option maxRecDepth 20000 in
theorem ggX5_rightsNow_X5_isFine : GoodIn wsX5_rightsNow wsX5_isFine := goodIn_r _ [16, 17, 53, 54, 55, 56, 57, 58, 59, 60, 61, 62, 63, 64, 65, 66, 67, 68, 69, 70, 71, 72] (by decide +kernel) (by decide +kernel)
set_option maxRecDepth 20000 in
theorem gX5_rightsNow_X5_isFine : GoodIn wsX5_rightsNow (wsV RX5 82 RX5 yX5_isFine wsX5_isFine) := goodIn_app (goodIn_of _ (by decide +kernel)) ggX5_rightsNow_X5_isFine
set_option maxRecDepth 20000 in
theorem ggX5_rightsNow_X5_now : GoodIn wsX5_rightsNow wsX5_now := goodIn_r _ [21, 22, 23, 24, 25, 26, 3, 27, 28, 29, 30, 31, 32, 33, 34, 35, 36, 37, 38, 39, 40, 41, 42, 43, 44, 45, 46, 47, 48, 49, 50, 51, 52, 53, 54, 55, 56, 57, 58, 59, 60, 61, 62, 63, 64, 65, 66, 67, 68, 69, 70, 71, 72] (by decide +kernel) (by decide +kernel)
set_option maxRecDepth 20000 in
theorem gX5_rightsNow_X5_now : GoodIn wsX5_rightsNow (wsV RX5 125 RX5 yX5_now wsX5_now) := goodIn_app (goodIn_of _ (by decide +kernel)) ggX5_rightsNow_X5_now
theorem dX5_rightsNow_0 : decode cX5_rightsNow 0 = .ok (.aload_n 0, 1) := by decide +kernel
theorem dX5_rightsNow_1 : decode cX5_rightsNow 1 = .ok (.iload_n 1, 1) := by decide +kernel
theorem dX5_rightsNow_2 : decode cX5_rightsNow 2 = .ok (.invokestatic 79, 3) := by decide +kernel
theorem dX5_rightsNow_5 : decode cX5_rightsNow 5 = .ok (.ifCond .eq 15, 3) := by decide +kernel
theorem dX5_rightsNow_8 : decode cX5_rightsNow 8 = .ok (.aload_n 0, 1) := by decide +kernel
theorem dX5_rightsNow_9 : decode cX5_rightsNow 9 = .ok (.iload_n 2, 1) := by decide +kernel
theorem dX5_rightsNow_10 : decode cX5_rightsNow 10 = .ok (.invokevirtual 88, 3) := by decide +kernel
theorem dX5_rightsNow_13 : decode cX5_rightsNow 13 = .ok (.ifCond .eq 7, 3) := by decide +kernel
theorem dX5_rightsNow_16 : decode cX5_rightsNow 16 = .ok (.iconst 0, 1) := by decide +kernel
theorem dX5_rightsNow_17 : decode cX5_rightsNow 17 = .ok (.goto 4, 3) := by decide +kernel
theorem dX5_rightsNow_20 : decode cX5_rightsNow 20 = .ok (.iconst 1, 1) := by decide +kernel
theorem dX5_rightsNow_21 : decode cX5_rightsNow 21 = .ok (.invokevirtual 82, 3) := by decide +kernel
theorem dX5_rightsNow_24 : decode cX5_rightsNow 24 = .ok (.ifCond .eq 12, 3) := by decide +kernel
theorem dX5_rightsNow_27 : decode cX5_rightsNow 27 = .ok (.aload_n 0, 1) := by decide +kernel
theorem dX5_rightsNow_28 : decode cX5_rightsNow 28 = .ok (.iload_n 1, 1) := by decide +kernel
theorem dX5_rightsNow_29 : decode cX5_rightsNow 29 = .ok (.iload_n 2, 1) := by decide +kernel
theorem dX5_rightsNow_30 : decode cX5_rightsNow 30 = .ok (.invokevirtual 125, 3) := by decide +kernel
theorem dX5_rightsNow_33 : decode cX5_rightsNow 33 = .ok (.goto 4, 3) := by decide +kernel
theorem dX5_rightsNow_36 : decode cX5_rightsNow 36 = .ok (.iconst 0, 1) := by decide +kernel
theorem dX5_rightsNow_37 : decode cX5_rightsNow 37 = .ok (.ireturn, 1) := by decide +kernel
set_option maxRecDepth 20000 in
theorem ggX5_gainers_X5_isFolder : GoodIn wsX5_gainers wsX5_isFolder := goodIn_r _ [5, 6, 7, 8, 4, 9, 50, 51, 52, 53, 54, 55, 56, 57, 58, 59, 60, 61, 62, 63, 64, 65, 66, 67, 68, 69] (by decide +kernel) (by decide +kernel)
set_option maxRecDepth 20000 in
theorem gX5_gainers_X5_isFolder : GoodIn wsX5_gainers (wsV RX5 88 RX5 yX5_isFolder wsX5_isFolder) := goodIn_app (goodIn_of _ (by decide +kernel)) ggX5_gainers_X5_isFolder
set_option maxRecDepth 20000 in
theorem ggX5_gainers_X5_isFine : GoodIn wsX5_gainers wsX5_isFine := goodIn_r _ [13, 14, 50, 51, 52, 53, 54, 55, 56, 57, 58, 59, 60, 61, 62, 63, 64, 65, 66, 67, 68, 69] (by decide +kernel) (by decide +kernel)
set_option maxRecDepth 20000 in
theorem gX5_gainers_X5_isFine : GoodIn wsX5_gainers (wsV RX5 82 RX5 yX5_isFine wsX5_isFine) := goodIn_app (goodIn_of _ (by decide +kernel)) ggX5_gainers_X5_isFine
set_option maxRecDepth 20000 in
theorem ggX5_gainers_X5_now : GoodIn wsX5_gainers wsX5_now := goodIn_r _ [18, 19, 20, 21, 22, 23, 4, 24, 25, 26, 27, 28, 29, 30, 31, 32, 33, 34, 35, 36, 37, 38, 39, 40, 41, 42, 43, 44, 45, 46, 47, 48, 49, 50, 51, 52, 53, 54, 55, 56, 57, 58, 59, 60, 61, 62, 63, 64, 65, 66, 67, 68, 69] (by decide +kernel) (by decide +kernel)
set_option maxRecDepth 20000 in
theorem gX5_gainers_X5_now : GoodIn wsX5_gainers (wsV RX5 125 RX5 yX5_now wsX5_now) := goodIn_app (goodIn_of _ (by decide +kernel)) ggX5_gainers_X5_now
set_option maxRecDepth 20000 in
theorem ggX5_gainers_X5_rightsOf : GoodIn wsX5_gainers wsX5_rightsOf := goodIn_r _ [24, 25, 26, 27, 28, 29, 30, 31, 32, 33, 34, 4, 35, 36, 37, 38, 39, 40, 41, 42, 43, 44, 45, 46, 47, 48, 49, 50, 51, 52, 53, 54, 55, 56, 57, 58, 59, 60, 61, 62, 63, 64, 65, 66, 67, 68, 69] (by decide +kernel) (by decide +kernel)
set_option maxRecDepth 20000 in
theorem gX5_gainers_X5_rightsOf : GoodIn wsX5_gainers (wsV RX5 94 RX5 yX5_rightsOf wsX5_rightsOf) := goodIn_app (goodIn_of _ (by decide +kernel)) ggX5_gainers_X5_rightsOf
theorem dX5_gainers_0 : decode cX5_gainers 0 = .ok (.iconst 0, 1) := by decide +kernel
theorem dX5_gainers_1 : decode cX5_gainers 1 = .ok (.istore_n 2, 1) := by decide +kernel
theorem dX5_gainers_2 : decode cX5_gainers 2 = .ok (.aload_n 0, 1) := by decide +kernel
theorem dX5_gainers_3 : decode cX5_gainers 3 = .ok (.aload_n 0, 1) := by decide +kernel
theorem dX5_gainers_4 : decode cX5_gainers 4 = .ok (.iload_n 1, 1) := by decide +kernel
theorem dX5_gainers_5 : decode cX5_gainers 5 = .ok (.invokevirtual 88, 3) := by decide +kernel
theorem dX5_gainers_8 : decode cX5_gainers 8 = .ok (.ifCond .eq 7, 3) := by decide +kernel
theorem dX5_gainers_11 : decode cX5_gainers 11 = .ok (.iconst 0, 1) := by decide +kernel
theorem dX5_gainers_12 : decode cX5_gainers 12 = .ok (.goto 4, 3) := by decide +kernel
theorem dX5_gainers_15 : decode cX5_gainers 15 = .ok (.iconst 1, 1) := by decide +kernel
theorem dX5_gainers_16 : decode cX5_gainers 16 = .ok (.invokevirtual 82, 3) := by decide +kernel
theorem dX5_gainers_19 : decode cX5_gainers 19 = .ok (.ifCond .eq 45, 3) := by decide +kernel
theorem dX5_gainers_22 : decode cX5_gainers 22 = .ok (.iconst 0, 1) := by decide +kernel
theorem dX5_gainers_23 : decode cX5_gainers 23 = .ok (.istore_n 3, 1) := by decide +kernel
theorem dX5_gainers_24 : decode cX5_gainers 24 = .ok (.iload_n 3, 1) := by decide +kernel
theorem dX5_gainers_25 : decode cX5_gainers 25 = .ok (.bipush 8, 2) := by decide +kernel
theorem dX5_gainers_27 : decode cX5_gainers 27 = .ok (.if_icmp .ge 37, 3) := by decide +kernel
theorem dX5_gainers_30 : decode cX5_gainers 30 = .ok (.iload_n 2, 1) := by decide +kernel
theorem dX5_gainers_31 : decode cX5_gainers 31 = .ok (.aload_n 0, 1) := by decide +kernel
theorem dX5_gainers_32 : decode cX5_gainers 32 = .ok (.iload_n 3, 1) := by decide +kernel
theorem dX5_gainers_33 : decode cX5_gainers 33 = .ok (.iload_n 1, 1) := by decide +kernel
theorem dX5_gainers_34 : decode cX5_gainers 34 = .ok (.invokevirtual 125, 3) := by decide +kernel
theorem dX5_gainers_37 : decode cX5_gainers 37 = .ok (.aload_n 0, 1) := by decide +kernel
theorem dX5_gainers_38 : decode cX5_gainers 38 = .ok (.iload_n 3, 1) := by decide +kernel
theorem dX5_gainers_39 : decode cX5_gainers 39 = .ok (.iload_n 1, 1) := by decide +kernel
theorem dX5_gainers_40 : decode cX5_gainers 40 = .ok (.invokevirtual 94, 3) := by decide +kernel
theorem dX5_gainers_43 : decode cX5_gainers 43 = .ok (.iconst (-1), 1) := by decide +kernel
theorem dX5_gainers_44 : decode cX5_gainers 44 = .ok (.ixor, 1) := by decide +kernel
theorem dX5_gainers_45 : decode cX5_gainers 45 = .ok (.iand, 1) := by decide +kernel
theorem dX5_gainers_46 : decode cX5_gainers 46 = .ok (.ifCond .eq 9, 3) := by decide +kernel
theorem dX5_gainers_49 : decode cX5_gainers 49 = .ok (.iconst 1, 1) := by decide +kernel
theorem dX5_gainers_50 : decode cX5_gainers 50 = .ok (.iload_n 3, 1) := by decide +kernel
theorem dX5_gainers_51 : decode cX5_gainers 51 = .ok (.ishl, 1) := by decide +kernel
theorem dX5_gainers_52 : decode cX5_gainers 52 = .ok (.goto 4, 3) := by decide +kernel
theorem dX5_gainers_55 : decode cX5_gainers 55 = .ok (.iconst 0, 1) := by decide +kernel
theorem dX5_gainers_56 : decode cX5_gainers 56 = .ok (.ior, 1) := by decide +kernel
theorem dX5_gainers_57 : decode cX5_gainers 57 = .ok (.istore_n 2, 1) := by decide +kernel
theorem dX5_gainers_58 : decode cX5_gainers 58 = .ok (.iinc 3 1, 3) := by decide +kernel
theorem dX5_gainers_61 : decode cX5_gainers 61 = .ok (.goto (-37), 3) := by decide +kernel
theorem dX5_gainers_64 : decode cX5_gainers 64 = .ok (.iload_n 2, 1) := by decide +kernel
theorem dX5_gainers_65 : decode cX5_gainers 65 = .ok (.ireturn, 1) := by decide +kernel
theorem dJ6_bitCount_0f7a4_0 : decode cJ6_bitCount_0f7a4 0 = .ok (.iload_n 0, 1) := by decide +kernel
theorem dJ6_bitCount_0f7a4_1 : decode cJ6_bitCount_0f7a4 1 = .ok (.iload_n 0, 1) := by decide +kernel
theorem dJ6_bitCount_0f7a4_2 : decode cJ6_bitCount_0f7a4 2 = .ok (.iconst 1, 1) := by decide +kernel
theorem dJ6_bitCount_0f7a4_3 : decode cJ6_bitCount_0f7a4 3 = .ok (.iushr, 1) := by decide +kernel
theorem dJ6_bitCount_0f7a4_4 : decode cJ6_bitCount_0f7a4 4 = .ok (.ldc_w 265, 3) := by decide +kernel
theorem dJ6_bitCount_0f7a4_7 : decode cJ6_bitCount_0f7a4 7 = .ok (.iand, 1) := by decide +kernel
theorem dJ6_bitCount_0f7a4_8 : decode cJ6_bitCount_0f7a4 8 = .ok (.isub, 1) := by decide +kernel
theorem dJ6_bitCount_0f7a4_9 : decode cJ6_bitCount_0f7a4 9 = .ok (.istore_n 0, 1) := by decide +kernel
theorem dJ6_bitCount_0f7a4_10 : decode cJ6_bitCount_0f7a4 10 = .ok (.iload_n 0, 1) := by decide +kernel
theorem dJ6_bitCount_0f7a4_11 : decode cJ6_bitCount_0f7a4 11 = .ok (.ldc_w 266, 3) := by decide +kernel
theorem dJ6_bitCount_0f7a4_14 : decode cJ6_bitCount_0f7a4 14 = .ok (.iand, 1) := by decide +kernel
theorem dJ6_bitCount_0f7a4_15 : decode cJ6_bitCount_0f7a4 15 = .ok (.iload_n 0, 1) := by decide +kernel
theorem dJ6_bitCount_0f7a4_16 : decode cJ6_bitCount_0f7a4 16 = .ok (.iconst 2, 1) := by decide +kernel
theorem dJ6_bitCount_0f7a4_17 : decode cJ6_bitCount_0f7a4 17 = .ok (.iushr, 1) := by decide +kernel
theorem dJ6_bitCount_0f7a4_18 : decode cJ6_bitCount_0f7a4 18 = .ok (.ldc_w 266, 3) := by decide +kernel
theorem dJ6_bitCount_0f7a4_21 : decode cJ6_bitCount_0f7a4 21 = .ok (.iand, 1) := by decide +kernel
theorem dJ6_bitCount_0f7a4_22 : decode cJ6_bitCount_0f7a4 22 = .ok (.iadd, 1) := by decide +kernel
theorem dJ6_bitCount_0f7a4_23 : decode cJ6_bitCount_0f7a4 23 = .ok (.istore_n 0, 1) := by decide +kernel
theorem dJ6_bitCount_0f7a4_24 : decode cJ6_bitCount_0f7a4 24 = .ok (.iload_n 0, 1) := by decide +kernel
theorem dJ6_bitCount_0f7a4_25 : decode cJ6_bitCount_0f7a4 25 = .ok (.iload_n 0, 1) := by decide +kernel
theorem dJ6_bitCount_0f7a4_26 : decode cJ6_bitCount_0f7a4 26 = .ok (.iconst 4, 1) := by decide +kernel
theorem dJ6_bitCount_0f7a4_27 : decode cJ6_bitCount_0f7a4 27 = .ok (.iushr, 1) := by decide +kernel
theorem dJ6_bitCount_0f7a4_28 : decode cJ6_bitCount_0f7a4 28 = .ok (.iadd, 1) := by decide +kernel
theorem dJ6_bitCount_0f7a4_29 : decode cJ6_bitCount_0f7a4 29 = .ok (.ldc_w 267, 3) := by decide +kernel
theorem dJ6_bitCount_0f7a4_32 : decode cJ6_bitCount_0f7a4 32 = .ok (.iand, 1) := by decide +kernel
theorem dJ6_bitCount_0f7a4_33 : decode cJ6_bitCount_0f7a4 33 = .ok (.istore_n 0, 1) := by decide +kernel
theorem dJ6_bitCount_0f7a4_34 : decode cJ6_bitCount_0f7a4 34 = .ok (.iload_n 0, 1) := by decide +kernel
theorem dJ6_bitCount_0f7a4_35 : decode cJ6_bitCount_0f7a4 35 = .ok (.iload_n 0, 1) := by decide +kernel
theorem dJ6_bitCount_0f7a4_36 : decode cJ6_bitCount_0f7a4 36 = .ok (.bipush 8, 2) := by decide +kernel
theorem dJ6_bitCount_0f7a4_38 : decode cJ6_bitCount_0f7a4 38 = .ok (.iushr, 1) := by decide +kernel
theorem dJ6_bitCount_0f7a4_39 : decode cJ6_bitCount_0f7a4 39 = .ok (.iadd, 1) := by decide +kernel
theorem dJ6_bitCount_0f7a4_40 : decode cJ6_bitCount_0f7a4 40 = .ok (.istore_n 0, 1) := by decide +kernel
theorem dJ6_bitCount_0f7a4_41 : decode cJ6_bitCount_0f7a4 41 = .ok (.iload_n 0, 1) := by decide +kernel
theorem dJ6_bitCount_0f7a4_42 : decode cJ6_bitCount_0f7a4 42 = .ok (.iload_n 0, 1) := by decide +kernel
theorem dJ6_bitCount_0f7a4_43 : decode cJ6_bitCount_0f7a4 43 = .ok (.bipush 16, 2) := by decide +kernel
theorem dJ6_bitCount_0f7a4_45 : decode cJ6_bitCount_0f7a4 45 = .ok (.iushr, 1) := by decide +kernel
theorem dJ6_bitCount_0f7a4_46 : decode cJ6_bitCount_0f7a4 46 = .ok (.iadd, 1) := by decide +kernel
theorem dJ6_bitCount_0f7a4_47 : decode cJ6_bitCount_0f7a4 47 = .ok (.istore_n 0, 1) := by decide +kernel
theorem dJ6_bitCount_0f7a4_48 : decode cJ6_bitCount_0f7a4 48 = .ok (.iload_n 0, 1) := by decide +kernel
theorem dJ6_bitCount_0f7a4_49 : decode cJ6_bitCount_0f7a4 49 = .ok (.bipush 63, 2) := by decide +kernel
theorem dJ6_bitCount_0f7a4_51 : decode cJ6_bitCount_0f7a4 51 = .ok (.iand, 1) := by decide +kernel
theorem dJ6_bitCount_0f7a4_52 : decode cJ6_bitCount_0f7a4 52 = .ok (.ireturn, 1) := by decide +kernel
theorem dJ9_max_7cf53_0 : decode cJ9_max_7cf53 0 = .ok (.iload_n 0, 1) := by decide +kernel
theorem dJ9_max_7cf53_1 : decode cJ9_max_7cf53 1 = .ok (.iload_n 1, 1) := by decide +kernel
theorem dJ9_max_7cf53_2 : decode cJ9_max_7cf53 2 = .ok (.if_icmp .lt 7, 3) := by decide +kernel
theorem dJ9_max_7cf53_5 : decode cJ9_max_7cf53 5 = .ok (.iload_n 0, 1) := by decide +kernel
theorem dJ9_max_7cf53_6 : decode cJ9_max_7cf53 6 = .ok (.goto 4, 3) := by decide +kernel
theorem dJ9_max_7cf53_9 : decode cJ9_max_7cf53 9 = .ok (.iload_n 1, 1) := by decide +kernel
theorem dJ9_max_7cf53_10 : decode cJ9_max_7cf53 10 = .ok (.ireturn, 1) := by decide +kernel
theorem dJ9_min_7cf53_0 : decode cJ9_min_7cf53 0 = .ok (.iload_n 0, 1) := by decide +kernel
theorem dJ9_min_7cf53_1 : decode cJ9_min_7cf53 1 = .ok (.iload_n 1, 1) := by decide +kernel
theorem dJ9_min_7cf53_2 : decode cJ9_min_7cf53 2 = .ok (.if_icmp .gt 7, 3) := by decide +kernel
theorem dJ9_min_7cf53_5 : decode cJ9_min_7cf53 5 = .ok (.iload_n 0, 1) := by decide +kernel
theorem dJ9_min_7cf53_6 : decode cJ9_min_7cf53 6 = .ok (.goto 4, 3) := by decide +kernel
theorem dJ9_min_7cf53_9 : decode cJ9_min_7cf53 9 = .ok (.iload_n 1, 1) := by decide +kernel
theorem dJ9_min_7cf53_10 : decode cJ9_min_7cf53 10 = .ok (.ireturn, 1) := by decide +kernel
theorem dJxa1e45_init_da8c8_0 : decode cJxa1e45_init_da8c8 0 = .ok (.aload_n 0, 1) := by decide +kernel
theorem dJxa1e45_init_da8c8_1 : decode cJxa1e45_init_da8c8 1 = .ok (.invokespecial 1, 3) := by decide +kernel
theorem dJxa1e45_init_da8c8_4 : decode cJxa1e45_init_da8c8 4 = .ok (.return_, 1) := by decide +kernel
set_option maxRecDepth 20000 in
theorem ggJxc12de_init_da8c8_Jxa1e45_init_da8c8 : GoodIn wsJxc12de_init_da8c8 wsJxa1e45_init_da8c8 := goodIn_r _ [5, 6, 7, 8] (by decide +kernel) (by decide +kernel)
set_option maxRecDepth 20000 in
theorem gJxc12de_init_da8c8_Jxa1e45_init_da8c8 : GoodIn wsJxc12de_init_da8c8 (wsJxa1e45_init_da8c8) := ggJxc12de_init_da8c8_Jxa1e45_init_da8c8
theorem dJxc12de_init_da8c8_0 : decode cJxc12de_init_da8c8 0 = .ok (.aload_n 0, 1) := by decide +kernel
theorem dJxc12de_init_da8c8_1 : decode cJxc12de_init_da8c8 1 = .ok (.invokespecial 1, 3) := by decide +kernel
theorem dJxc12de_init_da8c8_4 : decode cJxc12de_init_da8c8 4 = .ok (.aload_n 0, 1) := by decide +kernel
theorem dJxc12de_init_da8c8_5 : decode cJxc12de_init_da8c8 5 = .ok (.iconst 0, 1) := by decide +kernel
theorem dJxc12de_init_da8c8_6 : decode cJxc12de_init_da8c8 6 = .ok (.putfield 7, 3) := by decide +kernel
theorem dJxc12de_init_da8c8_9 : decode cJxc12de_init_da8c8 9 = .ok (.return_, 1) := by decide +kernel
set_option maxRecDepth 20000 in
theorem ggJx4a65c_init_da8c8_Jxc12de_init_da8c8 : GoodIn wsJx4a65c_init_da8c8 wsJxc12de_init_da8c8 := goodIn_r _ [6, 7, 8, 9, 10, 11, 12, 13, 14, 15, 16, 17] (by decide +kernel) (by decide +kernel)
set_option maxRecDepth 20000 in
theorem gJx4a65c_init_da8c8_Jxc12de_init_da8c8 : GoodIn wsJx4a65c_init_da8c8 (wsJxc12de_init_da8c8) := ggJx4a65c_init_da8c8_Jxc12de_init_da8c8
theorem dJx4a65c_init_da8c8_0 : decode cJx4a65c_init_da8c8 0 = .ok (.aload_n 0, 1) := by decide +kernel
theorem dJx4a65c_init_da8c8_1 : decode cJx4a65c_init_da8c8 1 = .ok (.invokespecial 1, 3) := by decide +kernel
theorem dJx4a65c_init_da8c8_4 : decode cJx4a65c_init_da8c8 4 = .ok (.aload_n 0, 1) := by decide +kernel
theorem dJx4a65c_init_da8c8_5 : decode cJx4a65c_init_da8c8 5 = .ok (.getstatic 39, 3) := by decide +kernel
theorem dJx4a65c_init_da8c8_8 : decode cJx4a65c_init_da8c8 8 = .ok (.putfield 9, 3) := by decide +kernel
theorem dJx4a65c_init_da8c8_11 : decode cJx4a65c_init_da8c8 11 = .ok (.return_, 1) := by decide +kernel
set_option maxRecDepth 20000 in
theorem ggJx4a65c_grow_92f84_J8_newLength_cabcc : GoodIn wsJx4a65c_grow_92f84 wsJ8_newLength_cabcc := goodIn_r _ [11, 12, 4, 5, 6, 13, 14, 15, 10, 16] (by decide +kernel) (by decide +kernel)
set_option maxRecDepth 20000 in
theorem gJx4a65c_grow_92f84_J8_newLength_cabcc : GoodIn wsJx4a65c_grow_92f84 (va_wsS RJx4a65c 73 yJ8_newLength_cabcc wsJ8_newLength_cabcc) := goodIn_app (goodIn_of _ (by decide +kernel)) ggJx4a65c_grow_92f84_J8_newLength_cabcc
set_option maxRecDepth 20000 in
theorem ggJx4a65c_grow_92f84_J7_copyOf_1904c : GoodIn wsJx4a65c_grow_92f84 wsJ7_copyOf_1904c := goodIn_r _ [20, 21, 22, 23, 24, 25, 26, 19, 27, 28, 29, 30, 31, 5, 32, 33, 34, 35, 36] (by decide +kernel) (by decide +kernel)
set_option maxRecDepth 20000 in
theorem gJx4a65c_grow_92f84_J7_copyOf_1904c : GoodIn wsJx4a65c_grow_92f84 (va_wsS RJx4a65c 66 yJ7_copyOf_1904c wsJ7_copyOf_1904c) := goodIn_app (goodIn_of _ (by decide +kernel)) ggJx4a65c_grow_92f84_J7_copyOf_1904c
theorem dJx4a65c_grow_92f84_0 : decode cJx4a65c_grow_92f84 0 = .ok (.aload_n 0, 1) := by decide +kernel
theorem dJx4a65c_grow_92f84_1 : decode cJx4a65c_grow_92f84 1 = .ok (.getfield 9, 3) := by decide +kernel
theorem dJx4a65c_grow_92f84_4 : decode cJx4a65c_grow_92f84 4 = .ok (.arraylength, 1) := by decide +kernel
theorem dJx4a65c_grow_92f84_5 : decode cJx4a65c_grow_92f84 5 = .ok (.istore_n 2, 1) := by decide +kernel
theorem dJx4a65c_grow_92f84_6 : decode cJx4a65c_grow_92f84 6 = .ok (.iload_n 2, 1) := by decide +kernel
theorem dJx4a65c_grow_92f84_7 : decode cJx4a65c_grow_92f84 7 = .ok (.ifCond .gt 13, 3) := by decide +kernel
theorem dJx4a65c_grow_92f84_10 : decode cJx4a65c_grow_92f84 10 = .ok (.aload_n 0, 1) := by decide +kernel
theorem dJx4a65c_grow_92f84_11 : decode cJx4a65c_grow_92f84 11 = .ok (.getfield 9, 3) := by decide +kernel
theorem dJx4a65c_grow_92f84_14 : decode cJx4a65c_grow_92f84 14 = .ok (.getstatic 39, 3) := by decide +kernel
theorem dJx4a65c_grow_92f84_17 : decode cJx4a65c_grow_92f84 17 = .ok (.if_acmp .eq 28, 3) := by decide +kernel
theorem dJx4a65c_grow_92f84_20 : decode cJx4a65c_grow_92f84 20 = .ok (.iload_n 2, 1) := by decide +kernel
theorem dJx4a65c_grow_92f84_21 : decode cJx4a65c_grow_92f84 21 = .ok (.iload_n 1, 1) := by decide +kernel
theorem dJx4a65c_grow_92f84_22 : decode cJx4a65c_grow_92f84 22 = .ok (.iload_n 2, 1) := by decide +kernel
theorem dJx4a65c_grow_92f84_23 : decode cJx4a65c_grow_92f84 23 = .ok (.isub, 1) := by decide +kernel
theorem dJx4a65c_grow_92f84_24 : decode cJx4a65c_grow_92f84 24 = .ok (.iload_n 2, 1) := by decide +kernel
theorem dJx4a65c_grow_92f84_25 : decode cJx4a65c_grow_92f84 25 = .ok (.iconst 1, 1) := by decide +kernel
theorem dJx4a65c_grow_92f84_26 : decode cJx4a65c_grow_92f84 26 = .ok (.ishr, 1) := by decide +kernel
theorem dJx4a65c_grow_92f84_27 : decode cJx4a65c_grow_92f84 27 = .ok (.invokestatic 73, 3) := by decide +kernel
theorem dJx4a65c_grow_92f84_30 : decode cJx4a65c_grow_92f84 30 = .ok (.istore_n 3, 1) := by decide +kernel
theorem dJx4a65c_grow_92f84_31 : decode cJx4a65c_grow_92f84 31 = .ok (.aload_n 0, 1) := by decide +kernel
theorem dJx4a65c_grow_92f84_32 : decode cJx4a65c_grow_92f84 32 = .ok (.aload_n 0, 1) := by decide +kernel
theorem dJx4a65c_grow_92f84_33 : decode cJx4a65c_grow_92f84 33 = .ok (.getfield 9, 3) := by decide +kernel
theorem dJx4a65c_grow_92f84_36 : decode cJx4a65c_grow_92f84 36 = .ok (.iload_n 3, 1) := by decide +kernel
theorem dJx4a65c_grow_92f84_37 : decode cJx4a65c_grow_92f84 37 = .ok (.invokestatic 66, 3) := by decide +kernel
theorem dJx4a65c_grow_92f84_40 : decode cJx4a65c_grow_92f84 40 = .ok (.dup_x1, 1) := by decide +kernel
theorem dJx4a65c_grow_92f84_41 : decode cJx4a65c_grow_92f84 41 = .ok (.putfield 9, 3) := by decide +kernel
theorem dJx4a65c_grow_92f84_44 : decode cJx4a65c_grow_92f84 44 = .ok (.areturn, 1) := by decide +kernel
theorem dJx4a65c_grow_92f84_45 : decode cJx4a65c_grow_92f84 45 = .ok (.aload_n 0, 1) := by decide +kernel
theorem dJx4a65c_grow_92f84_46 : decode cJx4a65c_grow_92f84 46 = .ok (.bipush 10, 2) := by decide +kernel
theorem dJx4a65c_grow_92f84_48 : decode cJx4a65c_grow_92f84 48 = .ok (.iload_n 1, 1) := by decide +kernel
theorem dJx4a65c_grow_92f84_49 : decode cJx4a65c_grow_92f84 49 = .ok (.invokestatic 79, 3) := by decide +kernel
theorem dJx4a65c_grow_92f84_52 : decode cJx4a65c_grow_92f84 52 = .ok (.anewarray 7, 3) := by decide +kernel
theorem dJx4a65c_grow_92f84_55 : decode cJx4a65c_grow_92f84 55 = .ok (.dup_x1, 1) := by decide +kernel
theorem dJx4a65c_grow_92f84_56 : decode cJx4a65c_grow_92f84 56 = .ok (.putfield 9, 3) := by decide +kernel
theorem dJx4a65c_grow_92f84_59 : decode cJx4a65c_grow_92f84 59 = .ok (.areturn, 1) := by decide +kernel
set_option maxRecDepth 20000 in
theorem ggJx4a65c_grow_d5877_Jx4a65c_grow_92f84 : GoodIn wsJx4a65c_grow_d5877 wsJx4a65c_grow_92f84 := goodIn_r _ [6, 7, 8, 9, 10, 11, 12, 13, 14, 15, 16, 17, 18, 19, 20, 21, 22, 23, 24, 25, 26, 27, 28, 29, 30, 31, 32, 33, 34, 35, 36, 37, 38, 39, 40, 41, 42, 43, 44, 45] (by decide +kernel) (by decide +kernel)
set_option maxRecDepth 20000 in
theorem gJx4a65c_grow_d5877_Jx4a65c_grow_92f84 : GoodIn wsJx4a65c_grow_d5877 (wsV RJx4a65c 69 RJx4a65c yJx4a65c_grow_92f84 wsJx4a65c_grow_92f84) := goodIn_app (goodIn_of _ (by decide +kernel)) ggJx4a65c_grow_d5877_Jx4a65c_grow_92f84
theorem dJx4a65c_grow_d5877_0 : decode cJx4a65c_grow_d5877 0 = .ok (.aload_n 0, 1) := by decide +kernel
theorem dJx4a65c_grow_d5877_1 : decode cJx4a65c_grow_d5877 1 = .ok (.aload_n 0, 1) := by decide +kernel
theorem dJx4a65c_grow_d5877_2 : decode cJx4a65c_grow_d5877 2 = .ok (.getfield 48, 3) := by decide +kernel
theorem dJx4a65c_grow_d5877_5 : decode cJx4a65c_grow_d5877 5 = .ok (.iconst 1, 1) := by decide +kernel
theorem dJx4a65c_grow_d5877_6 : decode cJx4a65c_grow_d5877 6 = .ok (.iadd, 1) := by decide +kernel
theorem dJx4a65c_grow_d5877_7 : decode cJx4a65c_grow_d5877 7 = .ok (.invokevirtual 69, 3) := by decide +kernel
theorem dJx4a65c_grow_d5877_10 : decode cJx4a65c_grow_d5877 10 = .ok (.areturn, 1) := by decide +kernel
theorem dJx4a65c_size_8abf5_0 : decode cJx4a65c_size_8abf5 0 = .ok (.aload_n 0, 1) := by decide +kernel
theorem dJx4a65c_size_8abf5_1 : decode cJx4a65c_size_8abf5 1 = .ok (.getfield 48, 3) := by decide +kernel
theorem dJx4a65c_size_8abf5_4 : decode cJx4a65c_size_8abf5 4 = .ok (.ireturn, 1) := by decide +kernel
theorem dJx4a65c_elementData_915e3_0 : decode cJx4a65c_elementData_915e3 0 = .ok (.aload_n 0, 1) := by decide +kernel
theorem dJx4a65c_elementData_915e3_1 : decode cJx4a65c_elementData_915e3 1 = .ok (.getfield 9, 3) := by decide +kernel
theorem dJx4a65c_elementData_915e3_4 : decode cJx4a65c_elementData_915e3 4 = .ok (.iload_n 1, 1) := by decide +kernel
theorem dJx4a65c_elementData_915e3_5 : decode cJx4a65c_elementData_915e3 5 = .ok (.aaload, 1) := by decide +kernel
theorem dJx4a65c_elementData_915e3_6 : decode cJx4a65c_elementData_915e3 6 = .ok (.areturn, 1) := by decide +kernel
set_option maxRecDepth 20000 in
theorem ggJx4a65c_get_915e3_J15_checkIndex_7cf53 : GoodIn wsJx4a65c_get_915e3 wsJ15_checkIndex_7cf53 := goodIn_r _ [5, 6, 7, 8, 9] (by decide +kernel) (by decide +kernel)
set_option maxRecDepth 20000 in
theorem gJx4a65c_get_915e3_J15_checkIndex_7cf53 : GoodIn wsJx4a65c_get_915e3 (va_wsS RJx4a65c 118 yJ15_checkIndex_7cf53 wsJ15_checkIndex_7cf53) := goodIn_app (goodIn_of _ (by decide +kernel)) ggJx4a65c_get_915e3_J15_checkIndex_7cf53
set_option maxRecDepth 20000 in
theorem ggJx4a65c_get_915e3_Jx4a65c_elementData_915e3 : GoodIn wsJx4a65c_get_915e3 wsJx4a65c_elementData_915e3 := goodIn_r _ [14, 15, 16, 17, 18] (by decide +kernel) (by decide +kernel)
set_option maxRecDepth 20000 in
theorem gJx4a65c_get_915e3_Jx4a65c_elementData_915e3 : GoodIn wsJx4a65c_get_915e3 (wsV RJx4a65c 123 RJx4a65c yJx4a65c_elementData_915e3 wsJx4a65c_elementData_915e3) := goodIn_app (goodIn_of _ (by decide +kernel)) ggJx4a65c_get_915e3_Jx4a65c_elementData_915e3
theorem dJx4a65c_get_915e3_0 : decode cJx4a65c_get_915e3 0 = .ok (.iload_n 1, 1) := by decide +kernel
theorem dJx4a65c_get_915e3_1 : decode cJx4a65c_get_915e3 1 = .ok (.aload_n 0, 1) := by decide +kernel
theorem dJx4a65c_get_915e3_2 : decode cJx4a65c_get_915e3 2 = .ok (.getfield 48, 3) := by decide +kernel
theorem dJx4a65c_get_915e3_5 : decode cJx4a65c_get_915e3 5 = .ok (.invokestatic 118, 3) := by decide +kernel
theorem dJx4a65c_get_915e3_8 : decode cJx4a65c_get_915e3 8 = .ok (.pop, 1) := by decide +kernel
theorem dJx4a65c_get_915e3_9 : decode cJx4a65c_get_915e3 9 = .ok (.aload_n 0, 1) := by decide +kernel
theorem dJx4a65c_get_915e3_10 : decode cJx4a65c_get_915e3 10 = .ok (.iload_n 1, 1) := by decide +kernel
theorem dJx4a65c_get_915e3_11 : decode cJx4a65c_get_915e3 11 = .ok (.invokevirtual 123, 3) := by decide +kernel
theorem dJx4a65c_get_915e3_14 : decode cJx4a65c_get_915e3 14 = .ok (.areturn, 1) := by decide +kernel
set_option maxRecDepth 20000 in
theorem ggJx4a65c_add_72be8_Jx4a65c_grow_d5877 : GoodIn wsJx4a65c_add_72be8 wsJx4a65c_grow_d5877 := goodIn_r _ [6, 1, 7, 8, 9, 5, 10, 11, 12, 13, 14, 15, 16, 17, 18, 19, 20, 21, 22, 23, 24, 25, 26, 27, 28, 29, 30, 31, 32, 33, 34, 35, 36, 37, 38, 39, 40, 41, 42, 43, 44, 45, 46, 47, 48, 49] (by decide +kernel) (by decide +kernel)
set_option maxRecDepth 20000 in
theorem gJx4a65c_add_72be8_Jx4a65c_grow_d5877 : GoodIn wsJx4a65c_add_72be8 (wsV RJx4a65c 129 RJx4a65c yJx4a65c_grow_d5877 wsJx4a65c_grow_d5877) := goodIn_app (goodIn_of _ (by decide +kernel)) ggJx4a65c_add_72be8_Jx4a65c_grow_d5877
theorem dJx4a65c_add_72be8_0 : decode cJx4a65c_add_72be8 0 = .ok (.iload_n 3, 1) := by decide +kernel
theorem dJx4a65c_add_72be8_1 : decode cJx4a65c_add_72be8 1 = .ok (.aload_n 2, 1) := by decide +kernel
theorem dJx4a65c_add_72be8_2 : decode cJx4a65c_add_72be8 2 = .ok (.arraylength, 1) := by decide +kernel
theorem dJx4a65c_add_72be8_3 : decode cJx4a65c_add_72be8 3 = .ok (.if_icmp .ne 8, 3) := by decide +kernel
theorem dJx4a65c_add_72be8_6 : decode cJx4a65c_add_72be8 6 = .ok (.aload_n 0, 1) := by decide +kernel
theorem dJx4a65c_add_72be8_7 : decode cJx4a65c_add_72be8 7 = .ok (.invokevirtual 129, 3) := by decide +kernel
theorem dJx4a65c_add_72be8_10 : decode cJx4a65c_add_72be8 10 = .ok (.astore_n 2, 1) := by decide +kernel
theorem dJx4a65c_add_72be8_11 : decode cJx4a65c_add_72be8 11 = .ok (.aload_n 2, 1) := by decide +kernel
theorem dJx4a65c_add_72be8_12 : decode cJx4a65c_add_72be8 12 = .ok (.iload_n 3, 1) := by decide +kernel
theorem dJx4a65c_add_72be8_13 : decode cJx4a65c_add_72be8 13 = .ok (.aload_n 1, 1) := by decide +kernel
theorem dJx4a65c_add_72be8_14 : decode cJx4a65c_add_72be8 14 = .ok (.aastore, 1) := by decide +kernel
theorem dJx4a65c_add_72be8_15 : decode cJx4a65c_add_72be8 15 = .ok (.aload_n 0, 1) := by decide +kernel
theorem dJx4a65c_add_72be8_16 : decode cJx4a65c_add_72be8 16 = .ok (.iload_n 3, 1) := by decide +kernel
theorem dJx4a65c_add_72be8_17 : decode cJx4a65c_add_72be8 17 = .ok (.iconst 1, 1) := by decide +kernel
theorem dJx4a65c_add_72be8_18 : decode cJx4a65c_add_72be8 18 = .ok (.iadd, 1) := by decide +kernel
theorem dJx4a65c_add_72be8_19 : decode cJx4a65c_add_72be8 19 = .ok (.putfield 48, 3) := by decide +kernel
theorem dJx4a65c_add_72be8_22 : decode cJx4a65c_add_72be8 22 = .ok (.return_, 1) := by decide +kernel
set_option maxRecDepth 20000 in
theorem ggJx4a65c_add_9ea2d_Jx4a65c_add_72be8 : GoodIn wsJx4a65c_add_9ea2d wsJx4a65c_add_72be8 := goodIn_r _ [9, 4, 10, 11, 12, 8, 13, 14, 15, 16, 17, 3, 18, 19, 20, 21, 22, 23, 24, 25, 26, 27, 28, 29, 30, 31, 32, 33, 34, 35, 36, 37, 38, 39, 40, 41, 42, 43, 44, 45, 46, 47, 48, 49, 50, 51, 52, 53, 54, 55] (by decide +kernel) (by decide +kernel)
set_option maxRecDepth 20000 in
theorem gJx4a65c_add_9ea2d_Jx4a65c_add_72be8 : GoodIn wsJx4a65c_add_9ea2d (wsV RJx4a65c 131 RJx4a65c yJx4a65c_add_72be8 wsJx4a65c_add_72be8) := goodIn_app (goodIn_of _ (by decide +kernel)) ggJx4a65c_add_9ea2d_Jx4a65c_add_72be8
theorem dJx4a65c_add_9ea2d_0 : decode cJx4a65c_add_9ea2d 0 = .ok (.aload_n 0, 1) := by decide +kernel
theorem dJx4a65c_add_9ea2d_1 : decode cJx4a65c_add_9ea2d 1 = .ok (.dup, 1) := by decide +kernel
theorem dJx4a65c_add_9ea2d_2 : decode cJx4a65c_add_9ea2d 2 = .ok (.getfield 63, 3) := by decide +kernel
theorem dJx4a65c_add_9ea2d_5 : decode cJx4a65c_add_9ea2d 5 = .ok (.iconst 1, 1) := by decide +kernel
theorem dJx4a65c_add_9ea2d_6 : decode cJx4a65c_add_9ea2d 6 = .ok (.iadd, 1) := by decide +kernel
theorem dJx4a65c_add_9ea2d_7 : decode cJx4a65c_add_9ea2d 7 = .ok (.putfield 63, 3) := by decide +kernel
theorem dJx4a65c_add_9ea2d_10 : decode cJx4a65c_add_9ea2d 10 = .ok (.aload_n 0, 1) := by decide +kernel
theorem dJx4a65c_add_9ea2d_11 : decode cJx4a65c_add_9ea2d 11 = .ok (.aload_n 1, 1) := by decide +kernel
theorem dJx4a65c_add_9ea2d_12 : decode cJx4a65c_add_9ea2d 12 = .ok (.aload_n 0, 1) := by decide +kernel
theorem dJx4a65c_add_9ea2d_13 : decode cJx4a65c_add_9ea2d 13 = .ok (.getfield 9, 3) := by decide +kernel
theorem dJx4a65c_add_9ea2d_16 : decode cJx4a65c_add_9ea2d 16 = .ok (.aload_n 0, 1) := by decide +kernel
theorem dJx4a65c_add_9ea2d_17 : decode cJx4a65c_add_9ea2d 17 = .ok (.getfield 48, 3) := by decide +kernel
theorem dJx4a65c_add_9ea2d_20 : decode cJx4a65c_add_9ea2d 20 = .ok (.invokevirtual 131, 3) := by decide +kernel
theorem dJx4a65c_add_9ea2d_23 : decode cJx4a65c_add_9ea2d 23 = .ok (.iconst 1, 1) := by decide +kernel
theorem dJx4a65c_add_9ea2d_24 : decode cJx4a65c_add_9ea2d 24 = .ok (.ireturn, 1) := by decide +kernel
set_option maxRecDepth 20000 in
theorem ggJx4a65c_remove_915e3_J15_checkIndex_7cf53 : GoodIn wsJx4a65c_remove_915e3 wsJ15_checkIndex_7cf53 := goodIn_r _ [6, 7, 8, 9, 10] (by decide +kernel) (by decide +kernel)
set_option maxRecDepth 20000 in
theorem gJx4a65c_remove_915e3_J15_checkIndex_7cf53 : GoodIn wsJx4a65c_remove_915e3 (va_wsS RJx4a65c 118 yJ15_checkIndex_7cf53 wsJ15_checkIndex_7cf53) := goodIn_app (goodIn_of _ (by decide +kernel)) ggJx4a65c_remove_915e3_J15_checkIndex_7cf53
set_option maxRecDepth 20000 in
theorem ggJx4a65c_remove_915e3_Jx4a65c_fastRemove_b59b0 : GoodIn wsJx4a65c_remove_915e3 wsJx4a65c_fastRemove_b59b0 := goodIn_r _ [15, 16, 17, 1, 18, 19, 20, 21, 22, 23, 24] (by decide +kernel) (by decide +kernel)
set_option maxRecDepth 20000 in
theorem gJx4a65c_remove_915e3_Jx4a65c_fastRemove_b59b0 : GoodIn wsJx4a65c_remove_915e3 (wsV RJx4a65c 144 RJx4a65c yJx4a65c_fastRemove_b59b0 wsJx4a65c_fastRemove_b59b0) := goodIn_app (goodIn_of _ (by decide +kernel)) ggJx4a65c_remove_915e3_Jx4a65c_fastRemove_b59b0
theorem dJx4a65c_remove_915e3_0 : decode cJx4a65c_remove_915e3 0 = .ok (.iload_n 1, 1) := by decide +kernel
theorem dJx4a65c_remove_915e3_1 : decode cJx4a65c_remove_915e3 1 = .ok (.aload_n 0, 1) := by decide +kernel
theorem dJx4a65c_remove_915e3_2 : decode cJx4a65c_remove_915e3 2 = .ok (.getfield 48, 3) := by decide +kernel
theorem dJx4a65c_remove_915e3_5 : decode cJx4a65c_remove_915e3 5 = .ok (.invokestatic 118, 3) := by decide +kernel
theorem dJx4a65c_remove_915e3_8 : decode cJx4a65c_remove_915e3 8 = .ok (.pop, 1) := by decide +kernel
theorem dJx4a65c_remove_915e3_9 : decode cJx4a65c_remove_915e3 9 = .ok (.aload_n 0, 1) := by decide +kernel
theorem dJx4a65c_remove_915e3_10 : decode cJx4a65c_remove_915e3 10 = .ok (.getfield 9, 3) := by decide +kernel
theorem dJx4a65c_remove_915e3_13 : decode cJx4a65c_remove_915e3 13 = .ok (.astore_n 2, 1) := by decide +kernel
theorem dJx4a65c_remove_915e3_14 : decode cJx4a65c_remove_915e3 14 = .ok (.aload_n 2, 1) := by decide +kernel
theorem dJx4a65c_remove_915e3_15 : decode cJx4a65c_remove_915e3 15 = .ok (.iload_n 1, 1) := by decide +kernel
theorem dJx4a65c_remove_915e3_16 : decode cJx4a65c_remove_915e3 16 = .ok (.aaload, 1) := by decide +kernel
theorem dJx4a65c_remove_915e3_17 : decode cJx4a65c_remove_915e3 17 = .ok (.astore_n 3, 1) := by decide +kernel
theorem dJx4a65c_remove_915e3_18 : decode cJx4a65c_remove_915e3 18 = .ok (.aload_n 0, 1) := by decide +kernel
theorem dJx4a65c_remove_915e3_19 : decode cJx4a65c_remove_915e3 19 = .ok (.aload_n 2, 1) := by decide +kernel
theorem dJx4a65c_remove_915e3_20 : decode cJx4a65c_remove_915e3 20 = .ok (.iload_n 1, 1) := by decide +kernel
theorem dJx4a65c_remove_915e3_21 : decode cJx4a65c_remove_915e3 21 = .ok (.invokevirtual 144, 3) := by decide +kernel
theorem dJx4a65c_remove_915e3_24 : decode cJx4a65c_remove_915e3 24 = .ok (.aload_n 3, 1) := by decide +kernel
theorem dJx4a65c_remove_915e3_25 : decode cJx4a65c_remove_915e3 25 = .ok (.areturn, 1) := by decide +kernel
theorem dJx4a65c_fastRemove_b59b0_0 : decode cJx4a65c_fastRemove_b59b0 0 = .ok (.aload_n 0, 1) := by decide +kernel
theorem dJx4a65c_fastRemove_b59b0_1 : decode cJx4a65c_fastRemove_b59b0 1 = .ok (.dup, 1) := by decide +kernel
theorem dJx4a65c_fastRemove_b59b0_2 : decode cJx4a65c_fastRemove_b59b0 2 = .ok (.getfield 63, 3) := by decide +kernel
theorem dJx4a65c_fastRemove_b59b0_5 : decode cJx4a65c_fastRemove_b59b0 5 = .ok (.iconst 1, 1) := by decide +kernel
theorem dJx4a65c_fastRemove_b59b0_6 : decode cJx4a65c_fastRemove_b59b0 6 = .ok (.iadd, 1) := by decide +kernel
theorem dJx4a65c_fastRemove_b59b0_7 : decode cJx4a65c_fastRemove_b59b0 7 = .ok (.putfield 63, 3) := by decide +kernel
theorem dJx4a65c_fastRemove_b59b0_10 : decode cJx4a65c_fastRemove_b59b0 10 = .ok (.aload_n 0, 1) := by decide +kernel
theorem dJx4a65c_fastRemove_b59b0_11 : decode cJx4a65c_fastRemove_b59b0 11 = .ok (.getfield 48, 3) := by decide +kernel
theorem dJx4a65c_fastRemove_b59b0_14 : decode cJx4a65c_fastRemove_b59b0 14 = .ok (.iconst 1, 1) := by decide +kernel
theorem dJx4a65c_fastRemove_b59b0_15 : decode cJx4a65c_fastRemove_b59b0 15 = .ok (.isub, 1) := by decide +kernel
theorem dJx4a65c_fastRemove_b59b0_16 : decode cJx4a65c_fastRemove_b59b0 16 = .ok (.dup, 1) := by decide +kernel
theorem dJx4a65c_fastRemove_b59b0_17 : decode cJx4a65c_fastRemove_b59b0 17 = .ok (.istore_n 3, 1) := by decide +kernel
theorem dJx4a65c_fastRemove_b59b0_18 : decode cJx4a65c_fastRemove_b59b0 18 = .ok (.iload_n 2, 1) := by decide +kernel
theorem dJx4a65c_fastRemove_b59b0_19 : decode cJx4a65c_fastRemove_b59b0 19 = .ok (.if_icmp .le 15, 3) := by decide +kernel
theorem dJx4a65c_fastRemove_b59b0_22 : decode cJx4a65c_fastRemove_b59b0 22 = .ok (.aload_n 1, 1) := by decide +kernel
theorem dJx4a65c_fastRemove_b59b0_23 : decode cJx4a65c_fastRemove_b59b0 23 = .ok (.iload_n 2, 1) := by decide +kernel
theorem dJx4a65c_fastRemove_b59b0_24 : decode cJx4a65c_fastRemove_b59b0 24 = .ok (.iconst 1, 1) := by decide +kernel
theorem dJx4a65c_fastRemove_b59b0_25 : decode cJx4a65c_fastRemove_b59b0 25 = .ok (.iadd, 1) := by decide +kernel
theorem dJx4a65c_fastRemove_b59b0_26 : decode cJx4a65c_fastRemove_b59b0 26 = .ok (.aload_n 1, 1) := by decide +kernel
theorem dJx4a65c_fastRemove_b59b0_27 : decode cJx4a65c_fastRemove_b59b0 27 = .ok (.iload_n 2, 1) := by decide +kernel
theorem dJx4a65c_fastRemove_b59b0_28 : decode cJx4a65c_fastRemove_b59b0 28 = .ok (.iload_n 3, 1) := by decide +kernel
theorem dJx4a65c_fastRemove_b59b0_29 : decode cJx4a65c_fastRemove_b59b0 29 = .ok (.iload_n 2, 1) := by decide +kernel
theorem dJx4a65c_fastRemove_b59b0_30 : decode cJx4a65c_fastRemove_b59b0 30 = .ok (.isub, 1) := by decide +kernel
theorem dJx4a65c_fastRemove_b59b0_31 : decode cJx4a65c_fastRemove_b59b0 31 = .ok (.invokestatic 112, 3) := by decide +kernel
theorem dJx4a65c_fastRemove_b59b0_34 : decode cJx4a65c_fastRemove_b59b0 34 = .ok (.aload_n 1, 1) := by decide +kernel
theorem dJx4a65c_fastRemove_b59b0_35 : decode cJx4a65c_fastRemove_b59b0 35 = .ok (.aload_n 0, 1) := by decide +kernel
theorem dJx4a65c_fastRemove_b59b0_36 : decode cJx4a65c_fastRemove_b59b0 36 = .ok (.iload_n 3, 1) := by decide +kernel
theorem dJx4a65c_fastRemove_b59b0_37 : decode cJx4a65c_fastRemove_b59b0 37 = .ok (.dup_x1, 1) := by decide +kernel
theorem dJx4a65c_fastRemove_b59b0_38 : decode cJx4a65c_fastRemove_b59b0 38 = .ok (.putfield 48, 3) := by decide +kernel
theorem dJx4a65c_fastRemove_b59b0_41 : decode cJx4a65c_fastRemove_b59b0 41 = .ok (.aconst_null, 1) := by decide +kernel
theorem dJx4a65c_fastRemove_b59b0_42 : decode cJx4a65c_fastRemove_b59b0 42 = .ok (.aastore, 1) := by decide +kernel
theorem dJx4a65c_fastRemove_b59b0_43 : decode cJx4a65c_fastRemove_b59b0 43 = .ok (.return_, 1) := by decide +kernel
set_option maxRecDepth 20000 in
theorem ggJ7_copyOf_1904c_J7_copyOf_6403c : GoodIn wsJ7_copyOf_1904c wsJ7_copyOf_6403c := goodIn_r _ [8, 9, 10, 11, 12, 13, 14, 15, 16, 17, 18] (by decide +kernel) (by decide +kernel)
set_option maxRecDepth 20000 in
theorem gJ7_copyOf_1904c_J7_copyOf_6403c : GoodIn wsJ7_copyOf_1904c (va_wsS RJ7 300 yJ7_copyOf_6403c wsJ7_copyOf_6403c) := goodIn_app (goodIn_of _ (by decide +kernel)) ggJ7_copyOf_1904c_J7_copyOf_6403c
theorem dJ7_copyOf_1904c_0 : decode cJ7_copyOf_1904c 0 = .ok (.aload_n 0, 1) := by decide +kernel
theorem dJ7_copyOf_1904c_1 : decode cJ7_copyOf_1904c 1 = .ok (.iload_n 1, 1) := by decide +kernel
theorem dJ7_copyOf_1904c_2 : decode cJ7_copyOf_1904c 2 = .ok (.aload_n 0, 1) := by decide +kernel
theorem dJ7_copyOf_1904c_3 : decode cJ7_copyOf_1904c 3 = .ok (.invokevirtual 86, 3) := by decide +kernel
theorem dJ7_copyOf_1904c_6 : decode cJ7_copyOf_1904c 6 = .ok (.invokestatic 300, 3) := by decide +kernel
theorem dJ7_copyOf_1904c_9 : decode cJ7_copyOf_1904c 9 = .ok (.areturn, 1) := by decide +kernel
theorem dJ7_copyOf_6403c_0 : decode cJ7_copyOf_6403c 0 = .ok (.aload_n 2, 1) := by decide +kernel
theorem dJ7_copyOf_6403c_1 : decode cJ7_copyOf_6403c 1 = .ok (.ldc 110, 2) := by decide +kernel
theorem dJ7_copyOf_6403c_3 : decode cJ7_copyOf_6403c 3 = .ok (.if_acmp .ne 10, 3) := by decide +kernel
theorem dJ7_copyOf_6403c_6 : decode cJ7_copyOf_6403c 6 = .ok (.iload_n 1, 1) := by decide +kernel
theorem dJ7_copyOf_6403c_7 : decode cJ7_copyOf_6403c 7 = .ok (.anewarray 2, 3) := by decide +kernel
theorem dJ7_copyOf_6403c_10 : decode cJ7_copyOf_6403c 10 = .ok (.goto 14, 3) := by decide +kernel
theorem dJ7_copyOf_6403c_13 : decode cJ7_copyOf_6403c 13 = .ok (.aload_n 2, 1) := by decide +kernel
theorem dJ7_copyOf_6403c_14 : decode cJ7_copyOf_6403c 14 = .ok (.invokevirtual 90, 3) := by decide +kernel
theorem dJ7_copyOf_6403c_17 : decode cJ7_copyOf_6403c 17 = .ok (.iload_n 1, 1) := by decide +kernel
theorem dJ7_copyOf_6403c_18 : decode cJ7_copyOf_6403c 18 = .ok (.invokestatic 95, 3) := by decide +kernel
theorem dJ7_copyOf_6403c_21 : decode cJ7_copyOf_6403c 21 = .ok (.checkcast 110, 3) := by decide +kernel
theorem dJ7_copyOf_6403c_24 : decode cJ7_copyOf_6403c 24 = .ok (.astore_n 3, 1) := by decide +kernel
theorem dJ7_copyOf_6403c_25 : decode cJ7_copyOf_6403c 25 = .ok (.aload_n 0, 1) := by decide +kernel
theorem dJ7_copyOf_6403c_26 : decode cJ7_copyOf_6403c 26 = .ok (.iconst 0, 1) := by decide +kernel
theorem dJ7_copyOf_6403c_27 : decode cJ7_copyOf_6403c 27 = .ok (.aload_n 3, 1) := by decide +kernel
theorem dJ7_copyOf_6403c_28 : decode cJ7_copyOf_6403c 28 = .ok (.iconst 0, 1) := by decide +kernel
theorem dJ7_copyOf_6403c_29 : decode cJ7_copyOf_6403c 29 = .ok (.aload_n 0, 1) := by decide +kernel
theorem dJ7_copyOf_6403c_30 : decode cJ7_copyOf_6403c 30 = .ok (.arraylength, 1) := by decide +kernel
theorem dJ7_copyOf_6403c_31 : decode cJ7_copyOf_6403c 31 = .ok (.iload_n 1, 1) := by decide +kernel
theorem dJ7_copyOf_6403c_32 : decode cJ7_copyOf_6403c 32 = .ok (.invokestatic 304, 3) := by decide +kernel
theorem dJ7_copyOf_6403c_35 : decode cJ7_copyOf_6403c 35 = .ok (.invokestatic 150, 3) := by decide +kernel
theorem dJ7_copyOf_6403c_38 : decode cJ7_copyOf_6403c 38 = .ok (.aload_n 3, 1) := by decide +kernel
theorem dJ7_copyOf_6403c_39 : decode cJ7_copyOf_6403c 39 = .ok (.areturn, 1) := by decide +kernel
set_option maxRecDepth 20000 in
theorem ggJ15_checkIndex_7cf53_J3_checkIndex_8e157 : GoodIn wsJ15_checkIndex_7cf53 wsJ3_checkIndex_8e157 := goodIn_r _ [4] (by decide +kernel) (by decide +kernel)
set_option maxRecDepth 20000 in
theorem gJ15_checkIndex_7cf53_J3_checkIndex_8e157 : GoodIn wsJ15_checkIndex_7cf53 (va_wsS RJ15 105 yJ3_checkIndex_8e157 wsJ3_checkIndex_8e157) := goodIn_app (goodIn_of _ (by decide +kernel)) ggJ15_checkIndex_7cf53_J3_checkIndex_8e157
theorem dJ15_checkIndex_7cf53_0 : decode cJ15_checkIndex_7cf53 0 = .ok (.iload_n 0, 1) := by decide +kernel
theorem dJ15_checkIndex_7cf53_1 : decode cJ15_checkIndex_7cf53 1 = .ok (.iload_n 1, 1) := by decide +kernel
theorem dJ15_checkIndex_7cf53_2 : decode cJ15_checkIndex_7cf53 2 = .ok (.aconst_null, 1) := by decide +kernel
theorem dJ15_checkIndex_7cf53_3 : decode cJ15_checkIndex_7cf53 3 = .ok (.invokestatic 105, 3) := by decide +kernel
theorem dJ15_checkIndex_7cf53_6 : decode cJ15_checkIndex_7cf53 6 = .ok (.ireturn, 1) := by decide +kernel
set_option maxRecDepth 20000 in
theorem ggJ8_newLength_cabcc_J8_hugeLength_7cf53 : GoodIn wsJ8_newLength_cabcc wsJ8_hugeLength_7cf53 := goodIn_r _ [9, 5] (by decide +kernel) (by decide +kernel)
set_option maxRecDepth 20000 in
theorem gJ8_newLength_cabcc_J8_hugeLength_7cf53 : GoodIn wsJ8_newLength_cabcc (va_wsS RJ8 201 yJ8_hugeLength_7cf53 wsJ8_hugeLength_7cf53) := goodIn_app (goodIn_of _ (by decide +kernel)) ggJ8_newLength_cabcc_J8_hugeLength_7cf53
theorem dJ8_newLength_cabcc_0 : decode cJ8_newLength_cabcc 0 = .ok (.iload_n 0, 1) := by decide +kernel
theorem dJ8_newLength_cabcc_1 : decode cJ8_newLength_cabcc 1 = .ok (.iload_n 1, 1) := by decide +kernel
theorem dJ8_newLength_cabcc_2 : decode cJ8_newLength_cabcc 2 = .ok (.iload_n 2, 1) := by decide +kernel
theorem dJ8_newLength_cabcc_3 : decode cJ8_newLength_cabcc 3 = .ok (.invokestatic 194, 3) := by decide +kernel
theorem dJ8_newLength_cabcc_6 : decode cJ8_newLength_cabcc 6 = .ok (.iadd, 1) := by decide +kernel
theorem dJ8_newLength_cabcc_7 : decode cJ8_newLength_cabcc 7 = .ok (.istore_n 3, 1) := by decide +kernel
theorem dJ8_newLength_cabcc_8 : decode cJ8_newLength_cabcc 8 = .ok (.iconst 0, 1) := by decide +kernel
theorem dJ8_newLength_cabcc_9 : decode cJ8_newLength_cabcc 9 = .ok (.iload_n 3, 1) := by decide +kernel
theorem dJ8_newLength_cabcc_10 : decode cJ8_newLength_cabcc 10 = .ok (.if_icmp .ge 11, 3) := by decide +kernel
theorem dJ8_newLength_cabcc_13 : decode cJ8_newLength_cabcc 13 = .ok (.iload_n 3, 1) := by decide +kernel
theorem dJ8_newLength_cabcc_14 : decode cJ8_newLength_cabcc 14 = .ok (.ldc 200, 2) := by decide +kernel
theorem dJ8_newLength_cabcc_16 : decode cJ8_newLength_cabcc 16 = .ok (.if_icmp .gt 5, 3) := by decide +kernel
theorem dJ8_newLength_cabcc_19 : decode cJ8_newLength_cabcc 19 = .ok (.iload_n 3, 1) := by decide +kernel
theorem dJ8_newLength_cabcc_20 : decode cJ8_newLength_cabcc 20 = .ok (.ireturn, 1) := by decide +kernel
theorem dJ8_newLength_cabcc_21 : decode cJ8_newLength_cabcc 21 = .ok (.iload_n 0, 1) := by decide +kernel
theorem dJ8_newLength_cabcc_22 : decode cJ8_newLength_cabcc 22 = .ok (.iload_n 1, 1) := by decide +kernel
theorem dJ8_newLength_cabcc_23 : decode cJ8_newLength_cabcc 23 = .ok (.invokestatic 201, 3) := by decide +kernel
theorem dJ8_newLength_cabcc_26 : decode cJ8_newLength_cabcc 26 = .ok (.ireturn, 1) := by decide +kernel
theorem dJ8_hugeLength_7cf53_0 : decode cJ8_hugeLength_7cf53 0 = .ok (.iload_n 0, 1) := by decide +kernel
theorem dJ8_hugeLength_7cf53_1 : decode cJ8_hugeLength_7cf53 1 = .ok (.iload_n 1, 1) := by decide +kernel
theorem dJ8_hugeLength_7cf53_2 : decode cJ8_hugeLength_7cf53 2 = .ok (.iadd, 1) := by decide +kernel
theorem dJ8_hugeLength_7cf53_3 : decode cJ8_hugeLength_7cf53 3 = .ok (.istore_n 2, 1) := by decide +kernel
theorem dJ8_hugeLength_7cf53_4 : decode cJ8_hugeLength_7cf53 4 = .ok (.iload_n 2, 1) := by decide +kernel
theorem dJ8_hugeLength_7cf53_5 : decode cJ8_hugeLength_7cf53 5 = .ok (.ifCond .ge 44, 3) := by decide +kernel
theorem dJ8_hugeLength_7cf53_8 : decode cJ8_hugeLength_7cf53 8 = .ok (.new 204, 3) := by decide +kernel
theorem dJ8_hugeLength_7cf53_11 : decode cJ8_hugeLength_7cf53 11 = .ok (.dup, 1) := by decide +kernel
theorem dJ8_hugeLength_7cf53_12 : decode cJ8_hugeLength_7cf53 12 = .ok (.new 89, 3) := by decide +kernel
theorem dJ8_hugeLength_7cf53_15 : decode cJ8_hugeLength_7cf53 15 = .ok (.dup, 1) := by decide +kernel
theorem dJ8_hugeLength_7cf53_16 : decode cJ8_hugeLength_7cf53 16 = .ok (.invokespecial 91, 3) := by decide +kernel
theorem dJ8_hugeLength_7cf53_19 : decode cJ8_hugeLength_7cf53 19 = .ok (.ldc 206, 2) := by decide +kernel
theorem dJ8_hugeLength_7cf53_21 : decode cJ8_hugeLength_7cf53 21 = .ok (.invokevirtual 94, 3) := by decide +kernel
theorem dJ8_hugeLength_7cf53_24 : decode cJ8_hugeLength_7cf53 24 = .ok (.iload_n 0, 1) := by decide +kernel
theorem dJ8_hugeLength_7cf53_25 : decode cJ8_hugeLength_7cf53 25 = .ok (.invokevirtual 98, 3) := by decide +kernel
theorem dJ8_hugeLength_7cf53_28 : decode cJ8_hugeLength_7cf53 28 = .ok (.ldc 208, 2) := by decide +kernel
theorem dJ8_hugeLength_7cf53_30 : decode cJ8_hugeLength_7cf53 30 = .ok (.invokevirtual 94, 3) := by decide +kernel
theorem dJ8_hugeLength_7cf53_33 : decode cJ8_hugeLength_7cf53 33 = .ok (.iload_n 1, 1) := by decide +kernel
theorem dJ8_hugeLength_7cf53_34 : decode cJ8_hugeLength_7cf53 34 = .ok (.invokevirtual 98, 3) := by decide +kernel
theorem dJ8_hugeLength_7cf53_37 : decode cJ8_hugeLength_7cf53 37 = .ok (.ldc 210, 2) := by decide +kernel
theorem dJ8_hugeLength_7cf53_39 : decode cJ8_hugeLength_7cf53 39 = .ok (.invokevirtual 94, 3) := by decide +kernel
theorem dJ8_hugeLength_7cf53_42 : decode cJ8_hugeLength_7cf53 42 = .ok (.invokevirtual 101, 3) := by decide +kernel
theorem dJ8_hugeLength_7cf53_45 : decode cJ8_hugeLength_7cf53 45 = .ok (.invokespecial 212, 3) := by decide +kernel
theorem dJ8_hugeLength_7cf53_48 : decode cJ8_hugeLength_7cf53 48 = .ok (.athrow, 1) := by decide +kernel
theorem dJ8_hugeLength_7cf53_49 : decode cJ8_hugeLength_7cf53 49 = .ok (.iload_n 2, 1) := by decide +kernel
theorem dJ8_hugeLength_7cf53_50 : decode cJ8_hugeLength_7cf53 50 = .ok (.ldc 200, 2) := by decide +kernel
theorem dJ8_hugeLength_7cf53_52 : decode cJ8_hugeLength_7cf53 52 = .ok (.if_icmp .gt 6, 3) := by decide +kernel
theorem dJ8_hugeLength_7cf53_55 : decode cJ8_hugeLength_7cf53 55 = .ok (.ldc 200, 2) := by decide +kernel
theorem dJ8_hugeLength_7cf53_57 : decode cJ8_hugeLength_7cf53 57 = .ok (.ireturn, 1) := by decide +kernel
theorem dJ8_hugeLength_7cf53_58 : decode cJ8_hugeLength_7cf53 58 = .ok (.iload_n 2, 1) := by decide +kernel
theorem dJ8_hugeLength_7cf53_59 : decode cJ8_hugeLength_7cf53 59 = .ok (.ireturn, 1) := by decide +kernel
theorem dJ3_checkIndex_8e157_0 : decode cJ3_checkIndex_8e157 0 = .ok (.iload_n 0, 1) := by decide +kernel
theorem dJ3_checkIndex_8e157_1 : decode cJ3_checkIndex_8e157 1 = .ok (.ifCond .lt 8, 3) := by decide +kernel
theorem dJ3_checkIndex_8e157_4 : decode cJ3_checkIndex_8e157 4 = .ok (.iload_n 0, 1) := by decide +kernel
theorem dJ3_checkIndex_8e157_5 : decode cJ3_checkIndex_8e157 5 = .ok (.iload_n 1, 1) := by decide +kernel
theorem dJ3_checkIndex_8e157_6 : decode cJ3_checkIndex_8e157 6 = .ok (.if_icmp .lt 10, 3) := by decide +kernel
theorem dJ3_checkIndex_8e157_9 : decode cJ3_checkIndex_8e157 9 = .ok (.aload_n 2, 1) := by decide +kernel
theorem dJ3_checkIndex_8e157_10 : decode cJ3_checkIndex_8e157 10 = .ok (.iload_n 0, 1) := by decide +kernel
theorem dJ3_checkIndex_8e157_11 : decode cJ3_checkIndex_8e157 11 = .ok (.iload_n 1, 1) := by decide +kernel
theorem dJ3_checkIndex_8e157_12 : decode cJ3_checkIndex_8e157 12 = .ok (.invokestatic 95, 3) := by decide +kernel
theorem dJ3_checkIndex_8e157_15 : decode cJ3_checkIndex_8e157 15 = .ok (.athrow, 1) := by decide +kernel
theorem dJ3_checkIndex_8e157_16 : decode cJ3_checkIndex_8e157 16 = .ok (.iload_n 0, 1) := by decide +kernel
theorem dJ3_checkIndex_8e157_17 : decode cJ3_checkIndex_8e157 17 = .ok (.ireturn, 1) := by decide +kernel
set_option maxRecDepth 20000 in
theorem ggL_setMember_X4_setMember : GoodIn wsL_setMember wsX4_setMember := goodIn_ca (goodIn_r _ [6, 7, 8, 9, 5, 10, 11, 12, 13, 14, 15, 16, 17, 18, 19, 20, 21, 22, 23, 24, 25, 26, 27, 28, 29, 30, 31, 32, 33, 34, 35, 36, 37, 38, 39] (by decide +kernel) (by decide +kernel)) (goodIn_sub (fun _ h => List.mem_cons_of_mem _ (List.mem_append_right _ h)) (by decide +kernel))
set_option maxRecDepth 20000 in
theorem gL_setMember_X4_setMember : GoodIn wsL_setMember (wsV RL 7 RX4 yX4_setMember wsX4_setMember) := goodIn_app (goodIn_of _ (by decide +kernel)) ggL_setMember_X4_setMember
end
section
/-! my own words: what a state of the two systems is, and rows that every walk uses -/
def b2i (b : Bool) : Int32 := if b = true then 1 else 0
theorem b2i_0 {b : Bool} (h : b2i b = 0) : b = false := by
  cases b with
  | false => rfl
  | true => exact absurd h (by decide)
theorem b2i_1 {b : Bool} (h : ¬ b2i b = 0) : b = true := by
  cases b with
  | true => rfl
  | false => exact absurd rfl h
theorem b2i_bf {b : Bool} (h : b = false) : ¬ b = true := by rw [h]; decide
theorem nar_b2i (b : Bool) : narrow .boolean (.int (b2i b)) = .int (b2i b) := by cases b <;> rfl
theorem fit_b2i (b : Bool) : fits .boolean (.int (b2i b)) = true := by cases b <;> rfl
theorem vpn_b2i (b : Bool) : vp_nar .boolean (b2i b) = b2i b := by cases b <;> rfl
abbrev rmr (f n : Nat) : Room := { frames := f, cells := 0, slots := 0, locals := n }
/-- links of nest mates -/
def NW (U : State) : Prop := va_Nw (.methodLinkNest RX2 21 yX4_contains RX4) U ∧ va_Nw (.methodLinkNest RX3 46 yX4_contains RX4) U ∧ va_Nw (.methodLinkNest RX4 11 yX2_init RX4) U ∧ va_Nw (.methodLinkNest RX4 25 yX3_init RX4) U
theorem NW.warm {s U : State} (hW : s.WarmedH U.vm) (h : NW s) : NW U := ⟨h.1.warmM hW, h.2.1.warmM hW, h.2.2.1.warmM hW, h.2.2.2.warmM hW⟩
theorem NW.same {s U : State} (e : s.vm = U.vm) (h : NW s) : NW U := ⟨h.1.same rfl e, h.2.1.same rfl e, h.2.2.1.same rfl e, h.2.2.2.same rfl e⟩
/-- a world that is read -/
def rdP (D : va_G) (tys : List (ClassId × FieldType)) (ws : va_W) (U : State) : Prop := va_P D vwCl ws U.heap ∧ va_K D vwCl tys U ∧ NW U
theorem rd_blind {D : va_G} {tys : List (ClassId × FieldType)} {ws : va_W} {av : List Value} : FrameBlind (va_Pc av (rdP D tys ws)) := by
  intro a U g mk h
  obtain ⟨e, hP, hK, hN⟩ := h
  exact ⟨e, hP, va_K.moved (u := U) (U := U.calling g mk a) (Vm.Alike.refl U.vm) hK, NW.same (s := U) (U := U.calling g mk a) rfl hN⟩
theorem rd_pre {D : va_G} {tys : List (ClassId × FieldType)} {ws : va_W} {av : List Value} {s : State} {H : Heap} (hP : va_P D vwCl ws H) (hK : va_K D vwCl tys s) (hN : NW s) : ∀ U : State, U.heap = H → s.WarmedH U.vm → va_Pc av (rdP D tys ws) av.toArray U :=
  fun _ hU hW => ⟨rfl, by rw [hU]; exact hP, va_K.moved hW.alike hK, hN.warm hW⟩
theorem nf_blind {av : List Value} : FrameBlind (va_Pc av (fun _ => True)) := fun _ _ _ _ h => h
theorem iinc_n (n : Nat) : nI n + Int32.ofInt 1 = nI (n + 1) := by
  have e : Int32.ofInt 1 = 1 := by decide
  rw [e]; exact nI_1 n
theorem ii_1 (x : Int32) : x + Int32.ofInt 1 = x + 1 := by
  have e : Int32.ofInt 1 = 1 := by decide
  rw [e]
theorem ii_m1 (x : Int32) : x + Int32.ofInt (-1) = x + (-1) := by
  have e : Int32.ofInt (-1) = -1 := by decide
  rw [e]
theorem lt_no {i N : Nat} (h : i < N) (hN : N < 2 ^ 31) : ¬ nI N ≤ nI i := nI_ge h hN
theorem lt_yes {i N : Nat} (h : N ≤ i) (hN : i < 2 ^ 31) : nI N ≤ nI i := nI_le h hN
section BR
variable {p : Program} {l : Launch} {e : Env} {R : Room} {s : State} {m : MethodId} {args : Array Value} {below : List Frame} {meth : Method} {c : Code} {H : Heap} {locs : List Loc} {cells slots : Nat} {Q : State → Prop}
variable {cc : ByteArray} {pc : Nat} {ls : Array Slot} {rest st0 : List Value} {D : va_G} {cl : List vw_C} {A : Nat → Prop} {a : Nat} {tys : List (ClassId × FieldType)} {ws : va_W} {H0 : Heap}
theorem iadd_n {x y : Nat} (hx : p.tables.exec = Jvm.exec) (hb : c.code = cc) (hdg : decode cc pc = .ok (.iadd, 1)) (k : W p l e R s m args below meth c H locs cells slots Q (F0 m (pc + 1) ls (.int (nI (x + y)) :: rest))) : W p l e R s m args below meth c H locs cells slots Q (F0 m pc ls (.int (nI y) :: .int (nI x) :: rest)) := by
  refine lv_iadd hx hb hdg ?_
  rw [nI_add]; exact k
theorem imul_n {x y : Nat} (hx : p.tables.exec = Jvm.exec) (hb : c.code = cc) (hdg : decode cc pc = .ok (.imul, 1)) (k : W p l e R s m args below meth c H locs cells slots Q (F0 m (pc + 1) ls (.int (nI (x * y)) :: rest))) : W p l e R s m args below meth c H locs cells slots Q (F0 m pc ls (.int (nI y) :: .int (nI x) :: rest)) := by
  refine lv_imul hx hb hdg ?_
  rw [pk_mul]; exact k
theorem isub_n {x y : Nat} (h : y ≤ x) (hx : p.tables.exec = Jvm.exec) (hb : c.code = cc) (hdg : decode cc pc = .ok (.isub, 1)) (k : W p l e R s m args below meth c H locs cells slots Q (F0 m (pc + 1) ls (.int (nI (x - y)) :: rest))) : W p l e R s m args below meth c H locs cells slots Q (F0 m pc ls (.int (nI y) :: .int (nI x) :: rest)) := by
  refine lv_isub hx hb hdg ?_
  rw [pk_sub h]; exact k
theorem ld_i (hx : p.tables.exec = Jvm.exec) (hb : c.code = cc) (hK : va_K D cl tys s) (hP : va_P D cl ws H) (q0 t0 : Nat) {cA : ClassId} {n : Nat} {f : Nat → Int32} (ha : ws[q0]? = some (a, .inl (cA, n, .inl f))) (ht : tys[t0]? = some (cA, .int)) {k : Nat} (hk : k < n) (hn : n < 2 ^ 31) (hdg : decode cc pc = .ok (.iaload, 1))
    (kk : W p l e R s m args below meth c H locs cells slots Q (F0 m (pc + 1) ls (.int (f k) :: rest))) : W p l e R s m args below meth c H locs cells slots Q (F0 m pc ls (.int (nI k) :: .ref a :: rest)) := by
  refine va_iald hx hb hK hP q0 t0 ha ht (vp_in_nI hk hn) hdg ?_
  rw [nI_clamp (by omega)]; exact kk
theorem ld_z (hx : p.tables.exec = Jvm.exec) (hb : c.code = cc) (hK : va_K D cl tys s) (hP : va_P D cl ws H) (q0 t0 : Nat) {cA : ClassId} {n : Nat} {f : Nat → Int32} (ha : ws[q0]? = some (a, .inl (cA, n, .inl f))) (ht : tys[t0]? = some (cA, .boolean)) {k : Nat} (hk : k < n) (hn : n < 2 ^ 31) (hdg : decode cc pc = .ok (.baload, 1))
    (kk : W p l e R s m args below meth c H locs cells slots Q (F0 m (pc + 1) ls (.int (f k) :: rest))) : W p l e R s m args below meth c H locs cells slots Q (F0 m pc ls (.int (nI k) :: .ref a :: rest)) := by
  refine va_zald hx hb hK hP q0 t0 ha ht (vp_in_nI hk hn) hdg ?_
  rw [nI_clamp (by omega)]; exact kk
theorem st_i (hx : p.tables.exec = Jvm.exec) (hb : c.code = cc) (hK : va_K D cl tys s) (hP : va_P D cl ws H) (hD : va_D A ws) (hS : va_S A H0 H locs) (q0 t0 : Nat) {cA : ClassId} {n : Nat} {f : Nat → Int32} (ha : ws[q0]? = some (a, .inl (cA, n, .inl f))) (ht : tys[t0]? = some (cA, .int)) {k : Nat} {x : Int32} (hk : k < n) (hn : n < 2 ^ 31) (hdg : decode cc pc = .ok (.iastore, 1))
    (kk : ∀ (H1 : Heap) (locs1 : List Loc), va_P D cl (ws.set q0 (a, .inl (cA, n, .inl (upd f k x)))) H1 → va_D A (ws.set q0 (a, .inl (cA, n, .inl (upd f k x)))) → va_S A H0 H1 locs1 → W p l e R s m args below meth c H1 locs1 cells slots Q (F0 m (pc + 1) ls rest)) : W p l e R s m args below meth c H locs cells slots Q (F0 m pc ls (.int x :: .int (nI k) :: .ref a :: rest)) := by
  refine va_iast hx hb hK hP hD hS q0 t0 ha ht (vp_in_nI hk hn) hdg ?_
  rw [nI_clamp (by omega)]; exact kk
theorem st_z (hx : p.tables.exec = Jvm.exec) (hb : c.code = cc) (hK : va_K D cl tys s) (hP : va_P D cl ws H) (hD : va_D A ws) (hS : va_S A H0 H locs) (q0 t0 : Nat) {cA : ClassId} {n : Nat} {f : Nat → Int32} (ha : ws[q0]? = some (a, .inl (cA, n, .inl f))) (ht : tys[t0]? = some (cA, .boolean)) {k : Nat} {x : Int32} (hk : k < n) (hn : n < 2 ^ 31) (hv : vp_nar .boolean x = x) (hdg : decode cc pc = .ok (.bastore, 1))
    (kk : ∀ (H1 : Heap) (locs1 : List Loc), va_P D cl (ws.set q0 (a, .inl (cA, n, .inl (upd f k x)))) H1 → va_D A (ws.set q0 (a, .inl (cA, n, .inl (upd f k x)))) → va_S A H0 H1 locs1 → W p l e R s m args below meth c H1 locs1 cells slots Q (F0 m (pc + 1) ls rest)) : W p l e R s m args below meth c H locs cells slots Q (F0 m pc ls (.int x :: .int (nI k) :: .ref a :: rest)) := by
  refine va_zast hx hb hK hP hD hS q0 t0 ha ht (vp_in_nI hk hn) hdg ?_
  rw [nI_clamp (by omega), hv]; exact kk
theorem vs_callSi {post : Int32 → Prop} {ar : Array Value} (hr : va_Run p l e R s m args below meth c H locs cells slots 0 0 (F0 m pc ls st0) rest (vp_Si post ar) (fun _ => False))
    (kk : ∀ r : Int32, post r → W p l e R s m args below meth c H locs cells slots Q (F0 m (pc + 3) ls (.int r :: rest))) : W p l e R s m args below meth c H locs cells slots Q (F0 m pc ls st0) := by
  intro T hT X
  obtain ⟨v, st₀, t, T', L, h0, X', hL, e1, e2, ⟨r, hv, hp, hh⟩, st⟩ := hr T hT X
  cases hv
  obtain ⟨t2, a1, b1⟩ := kk r hp T' (by rw [e1, hh, h0]) (Stand.forget X' (fun q h => (hL q h).elim))
  exact ⟨t2, st t2 a1, b1⟩
end BR
theorem wd_of {A : Nat → Prop} {ad : Nat → Nat} {n : Nat} {ws : va_W} (h : ws.map Prod.fst = (List.range n).map ad) (h1 : ∀ i j, i < n → j < n → ad i = ad j → i = j) (h2 : ∀ j, j < n → A (ad j)) : va_D A ws := by
  have key : ∀ (k : Nat) (q : Nat × va_E), ws[k]? = some q → k < n ∧ q.1 = ad k := by
    intro k q hk
    have e : (ws.map Prod.fst)[k]? = some q.1 := by rw [List.getElem?_map, hk]; rfl
    rw [h, List.getElem?_map] at e
    cases hr : (List.range n)[k]? with
    | none => rw [hr] at e; cases e
    | some v =>
      rw [hr] at e
      obtain ⟨hlt, hv⟩ := List.getElem?_eq_some_iff.mp hr
      rw [List.getElem_range] at hv
      rw [List.length_range] at hlt
      have e2 : ad v = q.1 := Option.some.inj e
      exact ⟨hlt, by rw [← e2, hv]⟩
  refine ⟨fun i j p q hi hj he => ?_, fun k q hk => ?_⟩
  · obtain ⟨a1, a2⟩ := key i p hi
    obtain ⟨b1, b2⟩ := key j q hj
    exact h1 i j a1 b1 (by rw [← a2, ← b2, he])
  · obtain ⟨a1, a2⟩ := key k q hk
    rw [a2]; exact h2 k a1
/-- the model's world: its object and its fifteen arrays; F the arrays, g the numbers, by their places -/
abbrev mdW (cI cZ : ClassId) (ad : Nat → Nat) (F : Nat → Nat → Int32) (g : Nat → Int32) : va_W :=
  [(ad 0, .inr (6, [.ref (ad 1), .ref (ad 2), .ref (ad 3), .ref (ad 4), .ref (ad 5), .ref (ad 6), .int (g 6), .ref (ad 7), .ref (ad 8), .ref (ad 9), .ref (ad 10), .ref (ad 11), .ref (ad 12), .int (g 13), .int (g 14), .int (g 15), .ref (ad 13), .ref (ad 14), .ref (ad 15), .int (g 19)])),
   (ad 1, .inl (cI, 6, .inl (F 1))), (ad 2, .inl (cI, 6, .inl (F 2))), (ad 3, .inl (cI, 20, .inl (F 3))), (ad 4, .inl (cI, 20, .inl (F 4))), (ad 5, .inl (cZ, 20, .inl (F 5))), (ad 6, .inl (cI, 20, .inl (F 6))),
   (ad 7, .inl (cI, 120, .inl (F 7))), (ad 8, .inl (cZ, 120, .inl (F 8))), (ad 9, .inl (cI, 120, .inl (F 9))), (ad 10, .inl (cI, 120, .inl (F 10))), (ad 11, .inl (cI, 8, .inl (F 11))), (ad 12, .inl (cI, 8, .inl (F 12))),
   (ad 13, .inl (cZ, 20, .inl (F 13))), (ad 14, .inl (cI, 160, .inl (F 14))), (ad 15, .inl (cZ, 20, .inl (F 15)))]
def apD (n : Nat) (A : Nat → Prop) (ad : Nat → Nat) : Prop := (∀ i j, i < n → j < n → ad i = ad j → i = j) ∧ ∀ j, j < n → A (ad j)
theorem md_D {cI cZ : ClassId} {ad : Nat → Nat} {F : Nat → Nat → Int32} {g : Nat → Int32} {A : Nat → Prop} (h : apD 16 A ad) : va_D A (mdW cI cZ ad F g) := wd_of (n := 16) (ad := ad) rfl h.1 h.2
/-- the class's groups -/
abbrev grW (cI : ClassId) (ad : Nat → Nat) (F : Nat → Nat → Int32) (_g : Nat → Int32) : va_W :=
  [(ad 0, .inr (3, [.ref (ad 1), .ref (ad 2), .ref (ad 3)])), (ad 1, .inl (cI, 6, .inl (F 1))), (ad 2, .inl (cI, 6, .inl (F 2))), (ad 3, .inl (cI, 6, .inl (F 3)))]
theorem gr_D {cI : ClassId} {ad : Nat → Nat} {F : Nat → Nat → Int32} {g : Nat → Int32} {A : Nat → Prop} (h : apD 4 A ad) : va_D A (grW cI ad F g) := wd_of (n := 4) (ad := ad) rfl h.1 h.2
/-- the class's mapping -/
abbrev mpW (cI : ClassId) (ad : Nat → Nat) (F : Nat → Nat → Int32) (g : Nat → Int32) : va_W :=
  [(ad 0, .inr (4, [.ref (ad 1), .ref (ad 2), .int (g 2), .int (g 3), .int (g 4), .int (g 5), .int (g 6)])), (ad 1, .inl (cI, 8, .inl (F 1))), (ad 2, .inl (cI, 8, .inl (F 2)))]
theorem mp_D {cI : ClassId} {ad : Nat → Nat} {F : Nat → Nat → Int32} {g : Nat → Int32} {A : Nat → Prop} (h : apD 3 A ad) : va_D A (mpW cI ad F g) := wd_of (n := 3) (ad := ad) rfl h.1 h.2
section TE
variable {p : Program} {l : Launch} {e : Env} {R : Room} {s : State} {m : MethodId} {args : Array Value} {below : List Frame} {meth : Method} {c : Code} {H : Heap} {locs : List Loc} {cells slots : Nat} {Q : State → Prop} {pc : Nat} {ls : Array Slot} {rest : List Value}
theorem top_eq {x y : Int32} (h : x = y) (k : W p l e R s m args below meth c H locs cells slots Q (F0 m pc ls (.int y :: rest))) : W p l e R s m args below meth c H locs cells slots Q (F0 m pc ls (.int x :: rest)) := by
  rw [h]; exact k
end TE
def i2n (x : Int32) : Nat := x.toNatClampNeg
theorem i2n_nI {k : Nat} (h : k < 2 ^ 31) : i2n (nI k) = k := nI_clamp h
theorem of_nI {x : Int32} {k : Nat} (h : x = nI k) (hk : k < 2 ^ 31) : x = nI (i2n x) := by rw [h, i2n_nI hk]
end
section
/-! what the leaves answer -/
def hasB (s k : Int32) : Bool := decide ((s >>> (k &&& 31)) &&& 1 = 1)
def hasC (s k : Int32) : Bool := !decide ((s >>> (k &&& 31)) &&& 1 = 0)
def inB (v a b : Int32) : Bool := decide (a ≤ v) && decide (v ≤ b)
def sizeI (s : Int32) : Nat → Int32
  | 0 => 0
  | k + 1 => sizeI s k + ((s >>> (nI k &&& 31)) &&& 1)
/-- one round over the groups -/
def gstep (f : Nat → Int32) (s : Int32) : Nat → Int32
  | 0 => s
  | k + 1 => gstep f s k ||| (if hasB (gstep f s k) (nI k) = true then f k else 0)
def grnds (f : Nat → Int32) (s : Int32) : Nat → Int32
  | 0 => s
  | r + 1 => gstep f (grnds f s r) 6
def memb (f : Nat → Int32) (gs : Int32) : Nat → Int32
  | 0 => 0
  | k + 1 => memb f gs k ||| (if hasB gs (nI k) = true then f k else 0)
/-- the persons in the group x, by the model -/
def mMem (F : Nat → Nat → Int32) (x : Nat) : Int32 := memb (F 1) (grnds (F 2) (1 <<< (nI x &&& 31)) 6) 6
def comm (f : Nat → Int32) (set : Int32) : Nat → Int32
  | 0 => if set = 0 then 0 else 7
  | k + 1 => comm f set k &&& (if hasB set (nI k) = true then f k else 7)
theorem inB_if (v a b : Int32) : (if v < a then (0 : Int32) else if b < v then 0 else 1) = b2i (inB v a b) := by
  unfold inB b2i
  by_cases h1 : v < a
  · rw [if_pos h1, if_neg (by simp [Int32.not_le.mpr h1])]
  · rw [if_neg h1]
    by_cases h2 : b < v
    · rw [if_pos h2, if_neg (by simp [Int32.not_le.mpr h2])]
    · rw [if_neg h2, if_pos (by simp [Int32.not_lt.mp h1, Int32.not_lt.mp h2])]
end
section
/-! the model's invariant and its rights -/
def okM (F : Nat → Nat → Int32) (g : Nat → Int32) (n : Nat) : Prop :=
  g 6 = nI n ∧ (1 ≤ n ∧ n ≤ 20) ∧ (∀ f, f < n → ∃ k, k ≤ 6 ∧ F 6 f = nI k) ∧ (∀ f, f < n → ∃ k, k < 8 ∧ F 4 f = nI k) ∧
  (∀ f, f < n → F 3 f = -1 ∨ ∃ k, k < f ∧ F 3 f = nI k) ∧ (∀ f k, f < n → k < i2n (F 6 f) → ∃ w, w < 14 ∧ F 7 (6 * f + k) = nI w)
theorem okM.len {F : Nat → Nat → Int32} {g : Nat → Int32} {n f : Nat} (h : okM F g n) (hf : f < n) : F 6 f = nI (i2n (F 6 f)) ∧ i2n (F 6 f) ≤ 6 := by
  obtain ⟨k, hk, e⟩ := h.2.2.1 f hf
  have e2 : i2n (F 6 f) = k := by rw [e, i2n_nI (by omega)]
  rw [e2]; exact ⟨e, hk⟩
theorem okM.own {F : Nat → Nat → Int32} {g : Nat → Int32} {n f : Nat} (h : okM F g n) (hf : f < n) : F 4 f = nI (i2n (F 4 f)) ∧ i2n (F 4 f) < 8 := by
  obtain ⟨k, hk, e⟩ := h.2.2.2.1 f hf
  have e2 : i2n (F 4 f) = k := by rw [e, i2n_nI (by omega)]
  rw [e2]; exact ⟨e, hk⟩
theorem okM.par {F : Nat → Nat → Int32} {g : Nat → Int32} {n f : Nat} (h : okM F g n) (hf : f < n) (hp : ¬ F 3 f = -1) : F 3 f = nI (i2n (F 3 f)) ∧ i2n (F 3 f) < f := by
  rcases h.2.2.2.2.1 f hf with e | ⟨k, hk, e⟩
  · exact absurd e hp
  · have hn := h.2.1.2
    have e2 : i2n (F 3 f) = k := by rw [e, i2n_nI (by omega)]
    rw [e2]; exact ⟨e, hk⟩
theorem okM.who {F : Nat → Nat → Int32} {g : Nat → Int32} {n f k : Nat} (h : okM F g n) (hf : f < n) (hk : k < i2n (F 6 f)) : ∃ w, w < 14 ∧ F 7 (6 * f + k) = nI w := h.2.2.2.2.2 f k hf hk
theorem sub8 {x : Int32} (hw : ∃ w, w < 14 ∧ x = nI w) (c : 8 ≤ x) : x - 8 = nI (i2n x - 8) := by
  obtain ⟨w, h, rfl⟩ := hw
  rw [i2n_nI (by omega)]
  have h8 : 8 ≤ w := (nI_leI (a := 8) (b := w) (by decide) (by omega)).mp c
  exact pk_sub (a := w) (b := 8) h8
def mFor (F : Nat → Nat → Int32) (k p : Nat) : Bool := if 8 ≤ F 7 k then hasB (mMem F (i2n (F 7 k) - 8)) (nI p) else decide (F 7 k = nI p)
def mCnt (F : Nat → Nat → Int32) (a f k : Nat) : Int32 := if nI a = nI f then (if F 10 k = 1 then 0 else 1) else (if F 10 k = 0 then 0 else 1)
def mStep (F : Nat → Nat → Int32) (p f a k : Nat) (s : Int32 × Int32) : Int32 × Int32 :=
  if mCnt F a f (6 * a + k) = 0 then s else if mFor F (6 * a + k) p = true then (s.1 ||| (if F 8 (6 * a + k) = 0 then 0 else F 9 (6 * a + k) &&& (s.2 ^^^ (-1))), s.2 ||| F 9 (6 * a + k)) else s
def mRow (F : Nat → Nat → Int32) (p f a : Nat) : Nat → Int32 × Int32 → Int32 × Int32
  | 0, s => s
  | k + 1, s => mStep F p f a k (mRow F p f a k s)
def mChain (F : Nat → Nat → Int32) (p f : Nat) : Nat → Nat → Int32 × Int32 → Int32
  | 0, _, s => s.1
  | n + 1, a, s => if F 5 a = 0 then (mRow F p f a (i2n (F 6 a)) s).1 else if F 3 a = -1 then (mRow F p f a (i2n (F 6 a)) s).1 else mChain F p f n (i2n (F 3 a)) (mRow F p f a (i2n (F 6 a)) s)
/-- the rights of the person p on the folder f, by the model -/
def mRights (F : Nat → Nat → Int32) (p f : Nat) : Int32 := if F 4 f = nI p then 7 else mChain F p f (f + 1) f (0, 0)
theorem mFor_if (F : Nat → Nat → Int32) (k p : Nat) : (if 8 ≤ F 7 k then b2i (hasB (mMem F (i2n (F 7 k) - 8)) (nI p)) else if F 7 k = nI p then (1 : Int32) else 0) = b2i (mFor F k p) := by
  unfold mFor
  by_cases c : 8 ≤ F 7 k
  · rw [if_pos c, if_pos c]
  · rw [if_neg c, if_neg c]; simp only [b2i, decide_eq_true_eq]
theorem mRow_1 (F : Nat → Nat → Int32) (p f a k : Nat) (s : Int32 × Int32) : (if mCnt F a f (6 * a + k) = 0 then (mRow F p f a k s).1 else if mFor F (6 * a + k) p = true then (mRow F p f a k s).1 ||| (if F 8 (6 * a + k) = 0 then 0 else F 9 (6 * a + k) &&& ((mRow F p f a k s).2 ^^^ (-1))) else (mRow F p f a k s).1) = (mRow F p f a (k + 1) s).1 := by
  show _ = (mStep F p f a k (mRow F p f a k s)).1
  unfold mStep
  split
  · rfl
  · split <;> rfl
theorem mRow_2 (F : Nat → Nat → Int32) (p f a k : Nat) (s : Int32 × Int32) : (if mCnt F a f (6 * a + k) = 0 then (mRow F p f a k s).2 else if mFor F (6 * a + k) p = true then (mRow F p f a k s).2 ||| F 9 (6 * a + k) else (mRow F p f a k s).2) = (mRow F p f a (k + 1) s).2 := by
  show _ = (mStep F p f a k (mRow F p f a k s)).2
  unfold mStep
  split
  · rfl
  · split <;> rfl
end
section
set_option maxHeartbeats 4000000 in
set_option maxRecDepth 100000 in
theorem k_X5_has (l : Launch) (x0 : Int32) (x1 : Int32) : Met l yX5_has wsX5_has (rmr 0 0) (va_Pc [.int x0, .int x1] (fun _ => True)) (vp_Si (fun r => r = b2i (hasB x0 x1))) 0 0 (fun _ => False) := by
  refine Met.ofW (cc := cX5_has) (maxL := 2) (ret := (some .boolean)) (by decide) rfl ?_
  intro p e s m args below meth c s₁ B hml hv
  obtain ⟨hargs, -⟩ := hv
  have hx := B.exec
  have hb := B.bytes
  have hr := B.returns
  have hts := atoms_spec (ws := wsX5_has) B.pre
  have hown : s.vm.findClass RX5 = some m.cls := findClass_of_methodNamed B.named
  have hlocks := B.notSynchronized
  have hen : entryFrame m args 2 = entryFrame m ([.int x0, .int x1] : List Value).toArray 2 := by rw [hargs]
  rw [hen]
  have hl := lv_entry ([.int x0, .int x1]) (n := 2) (Nat.le_of_ble_eq_true rfl)
  rw [lg_entry_eq]
  generalize (lg_sl ([.int x0, .int x1]) ++ List.replicate (2 - (lg_sl ([.int x0, .int x1])).length) Slot.unset).toArray = ls at hl ⊢
  have hl : lv_has ls 2 [(0, .int x0), (1, .int x1)] := hl
  generalize hQ : MQ below (vp_Si (fun r => r = b2i (hasB x0 x1))) args s 0 0 (fun _ => False) = Q
  refine lv_iload_n hx hb dX5_has_0 rfl (lv_at hl 0 rfl) ?_
  refine lv_iload_n hx hb dX5_has_1 rfl (lv_at hl 1 rfl) ?_
  refine lv_ishr hx hb dX5_has_2 ?_
  refine lv_iconst (v := 1) hx hb dX5_has_3 (by decide) ?_
  refine lv_iand hx hb dX5_has_4 ?_
  refine lv_iconst (v := 1) hx hb dX5_has_5 (by decide) ?_
  have J_14 : ∀ (z0 : Int32), z0 = (if ((x0 >>> (x1 &&& 31)) &&& 1) = 1 then 1 else 0) → ∀ ls : Array Slot, lv_has ls 2 [(0, .int x0), (1, .int x1)] → W p l e (headSpec wsX5_has (rmr 0 0)).room s m args below meth c s.heap [] 0 0 Q (F0 m 14 ls [.int z0]) := by
    intro z0 ez0 ls hl
    subst ez0
    subst hQ
    have hrt : (if ((x0 >>> (x1 &&& 31)) &&& 1) = 1 then 1 else 0 : Int32) = b2i (hasB x0 x1) := by simp only [b2i, hasB, decide_eq_true_eq]
    exact W.zret (v := if ((x0 >>> (x1 &&& 31)) &&& 1) = 1 then 1 else 0) hx hb hr (by rw [hrt]; exact nar_b2i _) (fun t ht _ => ⟨_, rfl, hrt, ht⟩) (fun _ h => absurd h List.not_mem_nil) dX5_has_14
  refine lv_icmp_ne (tgt := 13) hx hb dX5_has_6 (by decide) (fun c_6 => ?_) (fun c_6 => ?_)
  ·
    refine lv_iconst (v := 0) hx hb dX5_has_13 (by decide) ?_
    exact J_14 _ ((if_neg c_6).symm) ls (lv_sub hl [0, 1] rfl)
  ·
    refine lv_iconst (v := 1) hx hb dX5_has_9 (by decide) ?_
    refine lv_goto (tgt := 14) hx hb dX5_has_10 (by decide) ?_
    exact J_14 _ ((if_pos c_6).symm) ls (lv_sub hl [0, 1] rfl)

set_option maxHeartbeats 4000000 in
set_option maxRecDepth 100000 in
theorem k_X5_in (l : Launch) (x0 : Int32) (x1 : Int32) (x2 : Int32) : Met l yX5_in wsX5_in (rmr 0 0) (va_Pc [.int x0, .int x1, .int x2] (fun _ => True)) (vp_Si (fun r => r = b2i (inB x0 x1 x2))) 0 0 (fun _ => False) := by
  refine Met.ofW (cc := cX5_in) (maxL := 3) (ret := (some .boolean)) (by decide) rfl ?_
  intro p e s m args below meth c s₁ B hml hv
  obtain ⟨hargs, -⟩ := hv
  have hx := B.exec
  have hb := B.bytes
  have hr := B.returns
  have hts := atoms_spec (ws := wsX5_in) B.pre
  have hown : s.vm.findClass RX5 = some m.cls := findClass_of_methodNamed B.named
  have hlocks := B.notSynchronized
  have hen : entryFrame m args 3 = entryFrame m ([.int x0, .int x1, .int x2] : List Value).toArray 3 := by rw [hargs]
  rw [hen]
  have hl := lv_entry ([.int x0, .int x1, .int x2]) (n := 3) (Nat.le_of_ble_eq_true rfl)
  rw [lg_entry_eq]
  generalize (lg_sl ([.int x0, .int x1, .int x2]) ++ List.replicate (3 - (lg_sl ([.int x0, .int x1, .int x2])).length) Slot.unset).toArray = ls at hl ⊢
  have hl : lv_has ls 3 [(0, .int x0), (1, .int x1), (2, .int x2)] := hl
  generalize hQ : MQ below (vp_Si (fun r => r = b2i (inB x0 x1 x2))) args s 0 0 (fun _ => False) = Q
  refine lv_iload_n hx hb dX5_in_0 rfl (lv_at hl 0 rfl) ?_
  refine lv_iload_n hx hb dX5_in_1 rfl (lv_at hl 1 rfl) ?_
  have J_15 : ∀ (z0 : Int32), z0 = (if x0 < x1 then 0 else if x2 < x0 then 0 else 1) → ∀ ls : Array Slot, lv_has ls 3 [(0, .int x0), (1, .int x1), (2, .int x2)] → W p l e (headSpec wsX5_in (rmr 0 0)).room s m args below meth c s.heap [] 0 0 Q (F0 m 15 ls [.int z0]) := by
    intro z0 ez0 ls hl
    subst ez0
    subst hQ
    have hrt : (if x0 < x1 then 0 else if x2 < x0 then 0 else 1 : Int32) = b2i (inB x0 x1 x2) := by exact inB_if _ _ _
    exact W.zret (v := if x0 < x1 then 0 else if x2 < x0 then 0 else 1) hx hb hr (by rw [hrt]; exact nar_b2i _) (fun t ht _ => ⟨_, rfl, hrt, ht⟩) (fun _ h => absurd h List.not_mem_nil) dX5_in_15
  refine lv_icmp_lt (tgt := 14) hx hb dX5_in_2 (by decide) (fun c_2 => ?_) (fun c_2 => ?_)
  ·
    refine lv_iconst (v := 0) hx hb dX5_in_14 (by decide) ?_
    exact J_15 _ ((if_pos c_2).symm) ls (lv_sub hl [0, 1, 2] rfl)
  ·
    refine lv_iload_n hx hb dX5_in_5 rfl (lv_at hl 0 rfl) ?_
    refine lv_iload_n hx hb dX5_in_6 rfl (lv_at hl 2 rfl) ?_
    refine lv_icmp_gt (tgt := 14) hx hb dX5_in_7 (by decide) (fun c_7 => ?_) (fun c_7 => ?_)
    ·
      refine lv_iconst (v := 0) hx hb dX5_in_14 (by decide) ?_
      exact J_15 _ (((if_neg c_2).trans (if_pos c_7)).symm) ls (lv_sub hl [0, 1, 2] rfl)
    ·
      refine lv_iconst (v := 1) hx hb dX5_in_10 (by decide) ?_
      refine lv_goto (tgt := 15) hx hb dX5_in_11 (by decide) ?_
      exact J_15 _ (((if_neg c_2).trans (if_neg c_7)).symm) ls (lv_sub hl [0, 1, 2] rfl)

set_option maxHeartbeats 4000000 in
set_option maxRecDepth 100000 in
theorem k_X5_size (l : Launch) (x0 : Int32) : Met l yX5_size wsX5_size (rmr 0 0) (va_Pc [.int x0] (fun _ => True)) (vp_Si (fun r => r = sizeI x0 8)) 0 0 (fun _ => False) := by
  refine Met.ofW (cc := cX5_size) (maxL := 3) (ret := (some .int)) (by decide) rfl ?_
  intro p e s m args below meth c s₁ B hml hv
  obtain ⟨hargs, -⟩ := hv
  have hx := B.exec
  have hb := B.bytes
  have hr := B.returns
  have hts := atoms_spec (ws := wsX5_size) B.pre
  have hown : s.vm.findClass RX5 = some m.cls := findClass_of_methodNamed B.named
  have hlocks := B.notSynchronized
  have hen : entryFrame m args 3 = entryFrame m ([.int x0] : List Value).toArray 3 := by rw [hargs]
  rw [hen]
  have hl := lv_entry ([.int x0]) (n := 3) (Nat.le_of_ble_eq_true rfl)
  rw [lg_entry_eq]
  generalize (lg_sl ([.int x0]) ++ List.replicate (3 - (lg_sl ([.int x0])).length) Slot.unset).toArray = ls at hl ⊢
  have hl : lv_has ls 3 [(0, .int x0)] := hl
  generalize hQ : MQ below (vp_Si (fun r => r = sizeI x0 8)) args s 0 0 (fun _ => False) = Q
  refine lv_iconst (v := 0) hx hb dX5_size_0 (by decide) ?_
  refine lv_istore_n (lv' := [(1, .int 0), (0, .int x0)]) hx hb dX5_size_1 rfl hl (by decide) rfl (fun ls hl => ?_)
  refine lv_iconst (v := 0) hx hb dX5_size_2 (by decide) ?_
  refine lv_istore_n (lv' := [(2, .int 0), (1, .int 0), (0, .int x0)]) hx hb dX5_size_3 rfl hl (by decide) rfl (fun ls hl => ?_)
  have L_4 : ∀ n i : Nat, i ≤ 8 → 8 - i < n → ∀ (v1 : Int32), v1 = (sizeI x0 i) → ∀ ls : Array Slot, lv_has ls 3 [(0, .int x0), (2, .int (nI i)), (1, .int v1)] → W p l e (headSpec wsX5_size (rmr 0 0)).room s m args below meth c s.heap [] 0 0 Q (F0 m 4 ls []) := by
    intro n
    induction n with
    | zero => intro i _ h; exact absurd h (Nat.not_lt_zero _)
    | succ n ih_4 =>
      intro i hi_4 hn_4 v1 ev1 ls hl
      subst ev1
      rcases Nat.lt_or_ge i 8 with h_i | h_i
      ·
        refine lv_iload_n hx hb dX5_size_4 rfl (lv_at hl 1 rfl) ?_
        refine lv_bipush (v := 8) hx hb dX5_size_5 (by decide) ?_
        refine lv_icmp_ge (tgt := 24) hx hb dX5_size_7 (by decide) (fun c_7 => absurd c_7 (lt_no h_i (by decide))) (fun c_7 => ?_)
        refine lv_iload_n hx hb dX5_size_10 rfl (lv_at hl 2 rfl) ?_
        refine lv_iload_n hx hb dX5_size_11 rfl (lv_at hl 0 rfl) ?_
        refine lv_iload_n hx hb dX5_size_12 rfl (lv_at hl 1 rfl) ?_
        refine lv_ishr hx hb dX5_size_13 ?_
        refine lv_iconst (v := 1) hx hb dX5_size_14 (by decide) ?_
        refine lv_iand hx hb dX5_size_15 ?_
        refine lv_iadd hx hb dX5_size_16 ?_
        refine lv_istore_n (lv' := [(1, .int ((sizeI x0 i) + ((x0 >>> ((nI i) &&& 31)) &&& 1))), (0, .int x0), (2, .int (nI i))]) hx hb dX5_size_17 rfl hl (by decide) rfl (fun ls hl => ?_)
        refine lv_iinc (v := nI (i + 1)) (lv' := [(2, .int (nI (i + 1))), (1, .int ((sizeI x0 i) + ((x0 >>> ((nI i) &&& 31)) &&& 1))), (0, .int x0)]) hx hb dX5_size_18 hl (k := 2) rfl (by exact iinc_n _) (by decide) rfl (fun ls hl => ?_)
        refine lv_goto (tgt := 4) hx hb dX5_size_21 (by decide) ?_
        exact ih_4 (i + 1) (by omega) (by omega) _ (by rfl) ls (lv_sub hl [2, 0, 1] rfl)
      ·
        obtain rfl : i = 8 := by omega
        refine lv_iload_n hx hb dX5_size_4 rfl (lv_at hl 1 rfl) ?_
        refine lv_bipush (v := 8) hx hb dX5_size_5 (by decide) ?_
        refine lv_icmp_ge (tgt := 24) hx hb dX5_size_7 (by decide) (fun c_7 => ?_) (fun c_7 => absurd (lt_yes h_i (by decide)) c_7)
        refine lv_iload_n hx hb dX5_size_24 rfl (lv_at hl 2 rfl) ?_
        subst hQ
        exact W.iret (v := sizeI x0 8) hx hb hr (fun t ht _ => ⟨_, rfl, (by rfl), ht⟩) (fun _ h => absurd h List.not_mem_nil) dX5_size_25
  exact L_4 (8 + 1) 0 (by omega) (by omega) _ (by rfl) ls (lv_sub hl [2, 0, 1] rfl)

set_option maxHeartbeats 4000000 in
set_option maxRecDepth 100000 in
theorem k_X5_isGroup (l : Launch) (x0 : Int32) : Met l yX5_isGroup wsX5_isGroup (rmr 1 22) (va_Pc [.int x0] (fun _ => True)) (vp_Si (fun r => r = b2i (inB x0 0 5))) 0 0 (fun _ => False) := by
  refine Met.ofW (cc := cX5_isGroup) (maxL := 1) (ret := (some .boolean)) (by decide) rfl ?_
  intro p e s m args below meth c s₁ B hml hv
  obtain ⟨hargs, -⟩ := hv
  have hx := B.exec
  have hb := B.bytes
  have hr := B.returns
  have hts := atoms_spec (ws := wsX5_isGroup) B.pre
  have hown : s.vm.findClass RX5 = some m.cls := findClass_of_methodNamed B.named
  have hlocks := B.notSynchronized
  have hen : entryFrame m args 1 = entryFrame m ([.int x0] : List Value).toArray 1 := by rw [hargs]
  rw [hen]
  have hl := lv_entry ([.int x0]) (n := 1) (Nat.le_of_ble_eq_true rfl)
  rw [lg_entry_eq]
  generalize (lg_sl ([.int x0]) ++ List.replicate (1 - (lg_sl ([.int x0])).length) Slot.unset).toArray = ls at hl ⊢
  have hl : lv_has ls 1 [(0, .int x0)] := hl
  generalize hQ : MQ below (vp_Si (fun r => r = b2i (inB x0 0 5))) args s 0 0 (fun _ => False) = Q
  refine lv_iload_n hx hb dX5_isGroup_0 rfl (lv_at hl 0 rfl) ?_
  refine lv_iconst (v := 0) hx hb dX5_isGroup_1 (by decide) ?_
  refine lv_iconst (v := 5) hx hb dX5_isGroup_2 (by decide) ?_
  refine vp_callSi (W.runS (As := [.int x0, .int 0, .int 5]) (rest := []) ⟨hx, hb, hml, hown, hts⟩ (k_X5_in l x0 0 5) (va_cwS 3 hts gX5_isGroup_X5_in rfl rfl rfl (by decide +kernel) ⟨Nat.le_of_ble_eq_true rfl, Nat.le_of_ble_eq_true rfl⟩) ⟨nf_blind, fun U hU hW => ⟨rfl, trivial⟩⟩ rfl rfl hl.1 rfl (lv_room (Nat.le_of_ble_eq_true rfl)) dX5_isGroup_3 ⟨Nat.le_of_ble_eq_true rfl, Nat.le_of_ble_eq_true rfl⟩) (fun r er => ?_)
  subst er
  subst hQ
  have hrt : (b2i (inB x0 0 5) : Int32) = b2i (inB x0 0 5) := by rfl
  exact W.zret (v := b2i (inB x0 0 5)) hx hb hr (by rw [hrt]; exact nar_b2i _) (fun t ht _ => ⟨_, rfl, hrt, ht⟩) (fun _ h => absurd h List.not_mem_nil) dX5_isGroup_6

set_option maxHeartbeats 4000000 in
set_option maxRecDepth 100000 in
theorem k_X5_isPerson (l : Launch) (x0 : Int32) : Met l yX5_isPerson wsX5_isPerson (rmr 1 22) (va_Pc [.int x0] (fun _ => True)) (vp_Si (fun r => r = b2i (inB x0 0 7))) 0 0 (fun _ => False) := by
  refine Met.ofW (cc := cX5_isPerson) (maxL := 1) (ret := (some .boolean)) (by decide) rfl ?_
  intro p e s m args below meth c s₁ B hml hv
  obtain ⟨hargs, -⟩ := hv
  have hx := B.exec
  have hb := B.bytes
  have hr := B.returns
  have hts := atoms_spec (ws := wsX5_isPerson) B.pre
  have hown : s.vm.findClass RX5 = some m.cls := findClass_of_methodNamed B.named
  have hlocks := B.notSynchronized
  have hen : entryFrame m args 1 = entryFrame m ([.int x0] : List Value).toArray 1 := by rw [hargs]
  rw [hen]
  have hl := lv_entry ([.int x0]) (n := 1) (Nat.le_of_ble_eq_true rfl)
  rw [lg_entry_eq]
  generalize (lg_sl ([.int x0]) ++ List.replicate (1 - (lg_sl ([.int x0])).length) Slot.unset).toArray = ls at hl ⊢
  have hl : lv_has ls 1 [(0, .int x0)] := hl
  generalize hQ : MQ below (vp_Si (fun r => r = b2i (inB x0 0 7))) args s 0 0 (fun _ => False) = Q
  refine lv_iload_n hx hb dX5_isPerson_0 rfl (lv_at hl 0 rfl) ?_
  refine lv_iconst (v := 0) hx hb dX5_isPerson_1 (by decide) ?_
  refine lv_bipush (v := 7) hx hb dX5_isPerson_2 (by decide) ?_
  refine vp_callSi (W.runS (As := [.int x0, .int 0, .int 7]) (rest := []) ⟨hx, hb, hml, hown, hts⟩ (k_X5_in l x0 0 7) (va_cwS 3 hts gX5_isPerson_X5_in rfl rfl rfl (by decide +kernel) ⟨Nat.le_of_ble_eq_true rfl, Nat.le_of_ble_eq_true rfl⟩) ⟨nf_blind, fun U hU hW => ⟨rfl, trivial⟩⟩ rfl rfl hl.1 rfl (lv_room (Nat.le_of_ble_eq_true rfl)) dX5_isPerson_4 ⟨Nat.le_of_ble_eq_true rfl, Nat.le_of_ble_eq_true rfl⟩) (fun r er => ?_)
  subst er
  subst hQ
  have hrt : (b2i (inB x0 0 7) : Int32) = b2i (inB x0 0 7) := by rfl
  exact W.zret (v := b2i (inB x0 0 7)) hx hb hr (by rw [hrt]; exact nar_b2i _) (fun t ht _ => ⟨_, rfl, hrt, ht⟩) (fun _ h => absurd h List.not_mem_nil) dX5_isPerson_7

set_option maxHeartbeats 4000000 in
set_option maxRecDepth 100000 in
theorem k_X5_isFolder (l : Launch) (D : va_G) (cI cZ : ClassId) (ad : Nat → Nat) (F : Nat → Nat → Int32) (g : Nat → Int32) (x0 : Int32)   : Met l yX5_isFolder wsX5_isFolder (rmr 1 22) (va_Pc [.ref (ad 0), .int x0] (rdP D ([(cI, .int), (cZ, .boolean)]) (mdW cI cZ ad F g))) (vp_Si (fun r => r = b2i (inB x0 0 (g 6 - 1)))) 0 0 (fun _ => False) := by
  refine Met.ofW (cc := cX5_isFolder) (maxL := 2) (ret := (some .boolean)) (by decide) rfl ?_
  intro p e s m args below meth c s₁ B hml hv
  obtain ⟨hargs, hP, hK, hN⟩ := hv
  have hx := B.exec
  have hb := B.bytes
  have hr := B.returns
  have hts := atoms_spec (ws := wsX5_isFolder) B.pre
  have hown : s.vm.findClass RX5 = some m.cls := findClass_of_methodNamed B.named
  have hlocks := B.notSynchronized
  have hen : entryFrame m args 2 = entryFrame m ([.ref (ad 0), .int x0] : List Value).toArray 2 := by rw [hargs]
  rw [hen]
  have hl := lv_entry ([.ref (ad 0), .int x0]) (n := 2) (Nat.le_of_ble_eq_true rfl)
  rw [lg_entry_eq]
  generalize (lg_sl ([.ref (ad 0), .int x0]) ++ List.replicate (2 - (lg_sl ([.ref (ad 0), .int x0])).length) Slot.unset).toArray = ls at hl ⊢
  have hl : lv_has ls 2 [(0, .ref (ad 0)), (1, .int x0)] := hl
  generalize hQ : MQ below (vp_Si (fun r => r = b2i (inB x0 0 (g 6 - 1)))) args s 0 0 (fun _ => False) = Q
  refine lv_iload_n hx hb dX5_isFolder_0 rfl (lv_at hl 1 rfl) ?_
  refine lv_iconst (v := 0) hx hb dX5_isFolder_1 (by decide) ?_
  refine lv_aload_n hx hb dX5_isFolder_2 rfl (lv_at hl 0 rfl) ?_
  refine va_get (D := D) (ci := 6) (v := .int (g 6)) (C := RX5) (T := TX5) (N := 20) hx hb hts (fun _ h => List.mem_cons_of_mem _ (List.mem_append_right _ (h))) hown hK hP 0 rfl rfl 6 (by decide) (hts _ (List.mem_of_getElem? (i := 1) rfl)) (fun _ h9 => h9) rfl dX5_isFolder_3 ?_
  refine lv_iconst (v := 1) hx hb dX5_isFolder_6 (by decide) ?_
  refine lv_isub hx hb dX5_isFolder_7 ?_
  refine vp_callSi (W.runS (As := [.int x0, .int 0, .int ((g 6) - 1)]) (rest := []) ⟨hx, hb, hml, hown, hts⟩ (k_X5_in l x0 0 ((g 6) - 1)) (va_cwS 3 hts gX5_isFolder_X5_in rfl rfl rfl (by decide +kernel) ⟨Nat.le_of_ble_eq_true rfl, Nat.le_of_ble_eq_true rfl⟩) ⟨nf_blind, fun U hU hW => ⟨rfl, trivial⟩⟩ rfl rfl hl.1 rfl (lv_room (Nat.le_of_ble_eq_true rfl)) dX5_isFolder_8 ⟨Nat.le_of_ble_eq_true rfl, Nat.le_of_ble_eq_true rfl⟩) (fun r er => ?_)
  subst er
  subst hQ
  have hrt : (b2i (inB x0 0 ((g 6) - 1)) : Int32) = b2i (inB x0 0 (g 6 - 1)) := by rfl
  exact W.zret (v := b2i (inB x0 0 ((g 6) - 1))) hx hb hr (by rw [hrt]; exact nar_b2i _) (fun t ht _ => ⟨_, rfl, hrt, ht⟩) (fun _ h => absurd h List.not_mem_nil) dX5_isFolder_11

set_option maxHeartbeats 4000000 in
set_option maxRecDepth 100000 in
theorem k_X5_isFine (l : Launch) (D : va_G) (cI cZ : ClassId) (ad : Nat → Nat) (A : Nat → Prop) (F : Nat → Nat → Int32) (g : Nat → Int32) (hA : apD 16 A ad) (x0 : Int32)   : Met l yX5_isFine wsX5_isFine (rmr 0 0) (va_Pc [.ref (ad 0), .int x0] (rdP D ([(cI, .int), (cZ, .boolean)]) (mdW cI cZ ad F g))) (va_Qi (fun (r : Int32) (_ : Unit) => r = b2i (decide (x0 = 0))) (fun _ t => va_P D vwCl (mdW cI cZ ad F (va_up g 19 x0)) t.heap) A) 0 0 A := by
  refine Met.ofW (cc := cX5_isFine) (maxL := 2) (ret := (some .boolean)) (by decide) rfl ?_
  intro p e s m args below meth c s₁ B hml hv
  obtain ⟨hargs, hP, hK, hN⟩ := hv
  have hx := B.exec
  have hb := B.bytes
  have hr := B.returns
  have hts := atoms_spec (ws := wsX5_isFine) B.pre
  have hown : s.vm.findClass RX5 = some m.cls := findClass_of_methodNamed B.named
  have hlocks := B.notSynchronized
  have hen : entryFrame m args 2 = entryFrame m ([.ref (ad 0), .int x0] : List Value).toArray 2 := by rw [hargs]
  rw [hen]
  have hl := lv_entry ([.ref (ad 0), .int x0]) (n := 2) (Nat.le_of_ble_eq_true rfl)
  rw [lg_entry_eq]
  generalize (lg_sl ([.ref (ad 0), .int x0]) ++ List.replicate (2 - (lg_sl ([.ref (ad 0), .int x0])).length) Slot.unset).toArray = ls at hl ⊢
  have hl : lv_has ls 2 [(0, .ref (ad 0)), (1, .int x0)] := hl
  have hS : va_S A s.heap s.heap [] := va_S.rf
  generalize hQ : MQ below (va_Qi (fun (r : Int32) (_ : Unit) => r = b2i (decide (x0 = 0))) (fun _ t => va_P D vwCl (mdW cI cZ ad F (va_up g 19 x0)) t.heap) A) args s 0 0 A = Q
  have go : ∀ (H : Heap) (locs : List Loc), va_P D vwCl (mdW cI cZ ad F g) H → va_S A s.heap H locs → W p l e (headSpec wsX5_isFine (rmr 0 0)).room s m args below meth c H locs 0 0 Q (F0 m 0 ls []) := by
    intro H locs hP hS
    refine lv_aload_n hx hb dX5_isFine_0 rfl (lv_at hl 0 rfl) ?_
    refine lv_iload_n hx hb dX5_isFine_1 rfl (lv_at hl 1 rfl) ?_
    refine va_put (D := D) (ci := 6) (v := .int x0) (ty := .int) (C := RX5) (T := TX5) (N := 20) hx hb hts (fun _ h => List.mem_cons_of_mem _ (List.mem_append_right _ (h))) tyX5 tyX5_ok nmX5 hown hK hP (md_D hA) hS 0 rfl rfl 19 (by decide) (hts _ (List.mem_of_getElem? (i := 1) rfl)) (fun _ h9 => h9) rfl (by decide +kernel) rfl rfl (Nat.le_of_ble_eq_true rfl) dX5_isFine_2 (fun H locs hP _ hS => ?_)
    have hP : va_P D vwCl (mdW cI cZ ad F (va_up g 19 x0)) H := hP
    refine lv_iload_n hx hb dX5_isFine_5 rfl (lv_at hl 1 rfl) ?_
    have J_14 : ∀ (z0 : Int32), z0 = (if x0 = 0 then 1 else 0) → ∀ (H : Heap) (locs : List Loc), va_P D vwCl (mdW cI cZ ad F (va_up g 19 x0)) H → va_S A s.heap H locs → ∀ ls : Array Slot, lv_has ls 2 [(0, .ref (ad 0)), (1, .int x0)] → W p l e (headSpec wsX5_isFine (rmr 0 0)).room s m args below meth c H locs 0 0 Q (F0 m 14 ls [.int z0]) := by
      intro z0 ez0 H locs hP hS ls hl
      subst ez0
      subst hQ
      have hP : va_P D vwCl (mdW cI cZ ad F (va_up g 19 x0)) H := by
        have h := hP
        exact h
      have hrt : (if x0 = 0 then 1 else 0 : Int32) = b2i (decide (x0 = 0)) := by simp only [b2i, decide_eq_true_eq]
      exact W.zret (v := if x0 = 0 then 1 else 0) hx hb hr (by rw [hrt]; exact nar_b2i _) (fun t ht _ => ⟨⟨_, (), rfl, hrt, by have e := hP; rw [← ht] at e; exact e⟩, hS.F ht⟩) hS.2.2 dX5_isFine_14
    refine lv_if_ne (tgt := 13) hx hb dX5_isFine_6 (by decide) (fun c_6 => ?_) (fun c_6 => ?_)
    ·
      refine lv_iconst (v := 0) hx hb dX5_isFine_13 (by decide) ?_
      exact J_14 _ ((if_neg c_6).symm) _ _ hP hS ls (lv_sub hl [0, 1] rfl)
    ·
      refine lv_iconst (v := 1) hx hb dX5_isFine_9 (by decide) ?_
      refine lv_goto (tgt := 14) hx hb dX5_isFine_10 (by decide) ?_
      exact J_14 _ ((if_pos c_6).symm) _ _ hP hS ls (lv_sub hl [0, 1] rfl)
  exact go _ _ hP hS

set_option maxHeartbeats 4000000 in
set_option maxRecDepth 100000 in
theorem k_X5_thrown (l : Launch) (D : va_G) (cI cZ : ClassId) (ad : Nat → Nat) (F : Nat → Nat → Int32) (g : Nat → Int32)    : Met l yX5_thrown wsX5_thrown (rmr 0 0) (va_Pc [.ref (ad 0)] (rdP D ([(cI, .int), (cZ, .boolean)]) (mdW cI cZ ad F g))) (vp_Si (fun r => r = g 19)) 0 0 (fun _ => False) := by
  refine Met.ofW (cc := cX5_thrown) (maxL := 1) (ret := (some .int)) (by decide) rfl ?_
  intro p e s m args below meth c s₁ B hml hv
  obtain ⟨hargs, hP, hK, hN⟩ := hv
  have hx := B.exec
  have hb := B.bytes
  have hr := B.returns
  have hts := atoms_spec (ws := wsX5_thrown) B.pre
  have hown : s.vm.findClass RX5 = some m.cls := findClass_of_methodNamed B.named
  have hlocks := B.notSynchronized
  have hen : entryFrame m args 1 = entryFrame m ([.ref (ad 0)] : List Value).toArray 1 := by rw [hargs]
  rw [hen]
  have hl := lv_entry ([.ref (ad 0)]) (n := 1) (Nat.le_of_ble_eq_true rfl)
  rw [lg_entry_eq]
  generalize (lg_sl ([.ref (ad 0)]) ++ List.replicate (1 - (lg_sl ([.ref (ad 0)])).length) Slot.unset).toArray = ls at hl ⊢
  have hl : lv_has ls 1 [(0, .ref (ad 0))] := hl
  generalize hQ : MQ below (vp_Si (fun r => r = g 19)) args s 0 0 (fun _ => False) = Q
  refine lv_aload_n hx hb dX5_thrown_0 rfl (lv_at hl 0 rfl) ?_
  refine va_get (D := D) (ci := 6) (v := .int (g 19)) (C := RX5) (T := TX5) (N := 20) hx hb hts (fun _ h => List.mem_cons_of_mem _ (List.mem_append_right _ (h))) hown hK hP 0 rfl rfl 19 (by decide) (hts _ (List.mem_of_getElem? (i := 1) rfl)) (fun _ h9 => h9) rfl dX5_thrown_1 ?_
  subst hQ
  exact W.iret (v := g 19) hx hb hr (fun t ht _ => ⟨_, rfl, (by rfl), ht⟩) (fun _ h => absurd h List.not_mem_nil) dX5_thrown_4

set_option maxHeartbeats 4000000 in
set_option maxRecDepth 100000 in
theorem k_X5_groupsIn (l : Launch) (D : va_G) (cI cZ : ClassId) (ad : Nat → Nat) (F : Nat → Nat → Int32) (g : Nat → Int32) (x : Nat)   : Met l yX5_groupsIn wsX5_groupsIn (rmr 1 21) (va_Pc [.ref (ad 0), .int (nI x)] (rdP D ([(cI, .int), (cZ, .boolean)]) (mdW cI cZ ad F g))) (vp_Si (fun r => r = grnds (F 2) (1 <<< (nI x &&& 31)) 6)) 0 0 (fun _ => False) := by
  refine Met.ofW (cc := cX5_groupsIn) (maxL := 5) (ret := (some .int)) (by decide) rfl ?_
  intro p e s m args below meth c s₁ B hml hv
  obtain ⟨hargs, hP, hK, hN⟩ := hv
  have hx := B.exec
  have hb := B.bytes
  have hr := B.returns
  have hts := atoms_spec (ws := wsX5_groupsIn) B.pre
  have hown : s.vm.findClass RX5 = some m.cls := findClass_of_methodNamed B.named
  have hlocks := B.notSynchronized
  have hen : entryFrame m args 5 = entryFrame m ([.ref (ad 0), .int (nI x)] : List Value).toArray 5 := by rw [hargs]
  rw [hen]
  have hl := lv_entry ([.ref (ad 0), .int (nI x)]) (n := 5) (Nat.le_of_ble_eq_true rfl)
  rw [lg_entry_eq]
  generalize (lg_sl ([.ref (ad 0), .int (nI x)]) ++ List.replicate (5 - (lg_sl ([.ref (ad 0), .int (nI x)])).length) Slot.unset).toArray = ls at hl ⊢
  have hl : lv_has ls 5 [(0, .ref (ad 0)), (1, .int (nI x))] := hl
  generalize hQ : MQ below (vp_Si (fun r => r = grnds (F 2) (1 <<< (nI x &&& 31)) 6)) args s 0 0 (fun _ => False) = Q
  refine lv_iconst (v := 1) hx hb dX5_groupsIn_0 (by decide) ?_
  refine lv_iload_n hx hb dX5_groupsIn_1 rfl (lv_at hl 1 rfl) ?_
  refine lv_ishl hx hb dX5_groupsIn_2 ?_
  refine lv_istore_n (lv' := [(2, .int (1 <<< ((nI x) &&& 31))), (0, .ref (ad 0)), (1, .int (nI x))]) hx hb dX5_groupsIn_3 rfl hl (by decide) rfl (fun ls hl => ?_)
  refine lv_iconst (v := 0) hx hb dX5_groupsIn_4 (by decide) ?_
  refine lv_istore_n (lv' := [(3, .int 0), (2, .int (1 <<< ((nI x) &&& 31))), (0, .ref (ad 0)), (1, .int (nI x))]) hx hb dX5_groupsIn_5 rfl hl (by decide) rfl (fun ls hl => ?_)
  have L_6 : ∀ n i : Nat, i ≤ 6 → 6 - i < n → ∀ (v2 : Int32), v2 = (grnds (F 2) (1 <<< (nI x &&& 31)) i) → ∀ ls : Array Slot, lv_has ls 5 [(0, .ref (ad 0)), (1, .int (nI x)), (3, .int (nI i)), (2, .int v2)] → W p l e (headSpec wsX5_groupsIn (rmr 1 21)).room s m args below meth c s.heap [] 0 0 Q (F0 m 6 ls []) := by
    intro n
    induction n with
    | zero => intro i _ h; exact absurd h (Nat.not_lt_zero _)
    | succ n ih_6 =>
      intro i hi_6 hn_6 v2 ev2 ls hl
      subst ev2
      rcases Nat.lt_or_ge i 6 with h_i | h_i
      ·
        refine lv_iload_n hx hb dX5_groupsIn_6 rfl (lv_at hl 2 rfl) ?_
        refine lv_bipush (v := 6) hx hb dX5_groupsIn_7 (by decide) ?_
        refine lv_icmp_ge (tgt := 57) hx hb dX5_groupsIn_9 (by decide) (fun c_9 => absurd c_9 (lt_no h_i (by decide))) (fun c_9 => ?_)
        refine lv_iconst (v := 0) hx hb dX5_groupsIn_12 (by decide) ?_
        refine lv_istore (lv' := [(4, .int 0), (0, .ref (ad 0)), (1, .int (nI x)), (3, .int (nI i)), (2, .int (grnds (F 2) (1 <<< (nI x &&& 31)) i))]) hx hb dX5_groupsIn_13 hl (by decide) rfl (fun ls hl => ?_)
        have L_15 : ∀ n j : Nat, j ≤ 6 → 6 - j < n → ∀ (v2 : Int32), v2 = (gstep (F 2) (grnds (F 2) (1 <<< (nI x &&& 31)) i) j) → ∀ ls : Array Slot, lv_has ls 5 [(0, .ref (ad 0)), (1, .int (nI x)), (3, .int (nI i)), (4, .int (nI j)), (2, .int v2)] → W p l e (headSpec wsX5_groupsIn (rmr 1 21)).room s m args below meth c s.heap [] 0 0 Q (F0 m 15 ls []) := by
          intro n
          induction n with
          | zero => intro j _ h; exact absurd h (Nat.not_lt_zero _)
          | succ n ih_15 =>
            intro j hi_15 hn_15 v2 ev2 ls hl
            subst ev2
            rcases Nat.lt_or_ge j 6 with h_j | h_j
            ·
              refine lv_iload hx hb dX5_groupsIn_15 (lv_at hl 3 rfl) ?_
              refine lv_bipush (v := 6) hx hb dX5_groupsIn_17 (by decide) ?_
              refine lv_icmp_ge (tgt := 51) hx hb dX5_groupsIn_19 (by decide) (fun c_19 => absurd c_19 (lt_no h_j (by decide))) (fun c_19 => ?_)
              refine lv_iload_n hx hb dX5_groupsIn_22 rfl (lv_at hl 4 rfl) ?_
              refine lv_iload_n hx hb dX5_groupsIn_23 rfl (lv_at hl 4 rfl) ?_
              refine lv_iload hx hb dX5_groupsIn_24 (lv_at hl 3 rfl) ?_
              refine vp_callSi (W.runS (As := [.int (gstep (F 2) (grnds (F 2) (1 <<< (nI x &&& 31)) i) j), .int (nI j)]) (rest := [.int (gstep (F 2) (grnds (F 2) (1 <<< (nI x &&& 31)) i) j)]) ⟨hx, hb, hml, hown, hts⟩ (k_X5_has l (gstep (F 2) (grnds (F 2) (1 <<< (nI x &&& 31)) i) j) (nI j)) (va_cwS 2 hts gX5_groupsIn_X5_has rfl rfl rfl (by decide +kernel) ⟨Nat.le_of_ble_eq_true rfl, Nat.le_of_ble_eq_true rfl⟩) ⟨nf_blind, fun U hU hW => ⟨rfl, trivial⟩⟩ rfl rfl hl.1 rfl (lv_room (Nat.le_of_ble_eq_true rfl)) dX5_groupsIn_26 ⟨Nat.le_of_ble_eq_true rfl, Nat.le_of_ble_eq_true rfl⟩) (fun r er => ?_)
              subst er
              have J_43 : ∀ (z0 : Int32), z0 = (if (hasB (gstep (F 2) (grnds (F 2) (1 <<< (nI x &&& 31)) i) j) (nI j)) = true then (F 2) j else 0) → ∀ ls : Array Slot, lv_has ls 5 [(0, .ref (ad 0)), (1, .int (nI x)), (2, .int (gstep (F 2) (grnds (F 2) (1 <<< (nI x &&& 31)) i) j)), (3, .int (nI i)), (4, .int (nI j))] → W p l e (headSpec wsX5_groupsIn (rmr 1 21)).room s m args below meth c s.heap [] 0 0 Q (F0 m 43 ls [.int z0, .int (gstep (F 2) (grnds (F 2) (1 <<< (nI x &&& 31)) i) j)]) := by
                intro z0 ez0 ls hl
                subst ez0
                refine lv_ior hx hb dX5_groupsIn_43 ?_
                refine lv_istore_n (lv' := [(2, .int ((gstep (F 2) (grnds (F 2) (1 <<< (nI x &&& 31)) i) j) ||| (if (hasB (gstep (F 2) (grnds (F 2) (1 <<< (nI x &&& 31)) i) j) (nI j)) = true then (F 2) j else 0))), (0, .ref (ad 0)), (1, .int (nI x)), (3, .int (nI i)), (4, .int (nI j))]) hx hb dX5_groupsIn_44 rfl hl (by decide) rfl (fun ls hl => ?_)
                refine lv_iinc (v := nI (j + 1)) (lv' := [(4, .int (nI (j + 1))), (2, .int ((gstep (F 2) (grnds (F 2) (1 <<< (nI x &&& 31)) i) j) ||| (if (hasB (gstep (F 2) (grnds (F 2) (1 <<< (nI x &&& 31)) i) j) (nI j)) = true then (F 2) j else 0))), (0, .ref (ad 0)), (1, .int (nI x)), (3, .int (nI i))]) hx hb dX5_groupsIn_45 hl (k := 4) rfl (by exact iinc_n _) (by decide) rfl (fun ls hl => ?_)
                refine lv_goto (tgt := 15) hx hb dX5_groupsIn_48 (by decide) ?_
                exact ih_15 (j + 1) (by omega) (by omega) _ (by rfl) ls (lv_sub hl [2, 3, 4, 0, 1] rfl)
              refine lv_if_eq (tgt := 42) hx hb dX5_groupsIn_29 (by decide) (fun c_29 => ?_) (fun c_29 => ?_)
              ·
                have c_29 := b2i_0 c_29
                refine lv_iconst (v := 0) hx hb dX5_groupsIn_42 (by decide) ?_
                exact J_43 _ ((if_neg (b2i_bf c_29)).symm) ls (lv_sub hl [0, 1, 4, 2, 3] rfl)
              ·
                have c_29 := b2i_1 c_29
                refine lv_aload_n hx hb dX5_groupsIn_32 rfl (lv_at hl 0 rfl) ?_
                refine va_get (D := D) (ci := 6) (v := .ref (ad 2)) (C := RX5) (T := TX5) (N := 20) hx hb hts (fun _ h => List.mem_cons_of_mem _ (List.mem_append_right _ (h))) hown hK hP 0 rfl rfl 1 (by decide) (hts _ (List.mem_of_getElem? (i := 1) rfl)) (fun _ h9 => h9) rfl dX5_groupsIn_33 ?_
                refine lv_iload hx hb dX5_groupsIn_36 (lv_at hl 3 rfl) ?_
                refine ld_i (k := j) hx hb hK hP 2 0 rfl rfl (by omega) (by decide) dX5_groupsIn_38 ?_
                refine lv_goto (tgt := 43) hx hb dX5_groupsIn_39 (by decide) ?_
                exact J_43 _ ((if_pos c_29).symm) ls (lv_sub hl [0, 1, 4, 2, 3] rfl)
            ·
              obtain rfl : j = 6 := by omega
              refine lv_iload hx hb dX5_groupsIn_15 (lv_at hl 3 rfl) ?_
              refine lv_bipush (v := 6) hx hb dX5_groupsIn_17 (by decide) ?_
              refine lv_icmp_ge (tgt := 51) hx hb dX5_groupsIn_19 (by decide) (fun c_19 => ?_) (fun c_19 => absurd (lt_yes h_j (by decide)) c_19)
              refine lv_iinc (v := nI (i + 1)) (lv' := [(3, .int (nI (i + 1))), (0, .ref (ad 0)), (1, .int (nI x)), (4, .int (nI 6)), (2, .int (gstep (F 2) (grnds (F 2) (1 <<< (nI x &&& 31)) i) 6))]) hx hb dX5_groupsIn_51 hl (k := 2) rfl (by exact iinc_n _) (by decide) rfl (fun ls hl => ?_)
              refine lv_goto (tgt := 6) hx hb dX5_groupsIn_54 (by decide) ?_
              exact ih_6 (i + 1) (by omega) (by omega) _ (by rfl) ls (lv_sub hl [1, 2, 0, 4] rfl)
        exact L_15 (6 + 1) 0 (by omega) (by omega) _ (by rfl) ls (lv_sub hl [1, 2, 3, 0, 4] rfl)
      ·
        obtain rfl : i = 6 := by omega
        refine lv_iload_n hx hb dX5_groupsIn_6 rfl (lv_at hl 2 rfl) ?_
        refine lv_bipush (v := 6) hx hb dX5_groupsIn_7 (by decide) ?_
        refine lv_icmp_ge (tgt := 57) hx hb dX5_groupsIn_9 (by decide) (fun c_9 => ?_) (fun c_9 => absurd (lt_yes h_i (by decide)) c_9)
        refine lv_iload_n hx hb dX5_groupsIn_57 rfl (lv_at hl 3 rfl) ?_
        subst hQ
        exact W.iret (v := grnds (F 2) (1 <<< (nI x &&& 31)) 6) hx hb hr (fun t ht _ => ⟨_, rfl, (by rfl), ht⟩) (fun _ h => absurd h List.not_mem_nil) dX5_groupsIn_58
  exact L_6 (6 + 1) 0 (by omega) (by omega) _ (by rfl) ls (lv_sub hl [2, 3, 0, 1] rfl)

set_option maxHeartbeats 4000000 in
set_option maxRecDepth 100000 in
theorem k_X5_membersOf (l : Launch) (D : va_G) (cI cZ : ClassId) (ad : Nat → Nat) (F : Nat → Nat → Int32) (g : Nat → Int32) (x : Nat)   : Met l yX5_membersOf wsX5_membersOf (rmr 2 45) (va_Pc [.ref (ad 0), .int (nI x)] (rdP D ([(cI, .int), (cZ, .boolean)]) (mdW cI cZ ad F g))) (vp_Si (fun r => r = mMem F x)) 0 0 (fun _ => False) := by
  refine Met.ofW (cc := cX5_membersOf) (maxL := 5) (ret := (some .int)) (by decide) rfl ?_
  intro p e s m args below meth c s₁ B hml hv
  obtain ⟨hargs, hP, hK, hN⟩ := hv
  have hx := B.exec
  have hb := B.bytes
  have hr := B.returns
  have hts := atoms_spec (ws := wsX5_membersOf) B.pre
  have hown : s.vm.findClass RX5 = some m.cls := findClass_of_methodNamed B.named
  have hlocks := B.notSynchronized
  have hen : entryFrame m args 5 = entryFrame m ([.ref (ad 0), .int (nI x)] : List Value).toArray 5 := by rw [hargs]
  rw [hen]
  have hl := lv_entry ([.ref (ad 0), .int (nI x)]) (n := 5) (Nat.le_of_ble_eq_true rfl)
  rw [lg_entry_eq]
  generalize (lg_sl ([.ref (ad 0), .int (nI x)]) ++ List.replicate (5 - (lg_sl ([.ref (ad 0), .int (nI x)])).length) Slot.unset).toArray = ls at hl ⊢
  have hl : lv_has ls 5 [(0, .ref (ad 0)), (1, .int (nI x))] := hl
  generalize hQ : MQ below (vp_Si (fun r => r = mMem F x)) args s 0 0 (fun _ => False) = Q
  refine lv_aload_n hx hb dX5_membersOf_0 rfl (lv_at hl 0 rfl) ?_
  refine lv_iload_n hx hb dX5_membersOf_1 rfl (lv_at hl 1 rfl) ?_
  refine vp_callSi (W.runV (As := [.int (nI x)]) (rest := []) ⟨hx, hb, hml, hown, hts⟩ (k_X5_groupsIn l D cI cZ ad F g x) (cwV 1 hts gX5_membersOf_X5_groupsIn rfl rfl rfl (by decide +kernel) ⟨Nat.le_of_ble_eq_true rfl, Nat.le_of_ble_eq_true rfl⟩) ⟨rd_blind, va_recv hK hP (ci := 6) (q0 := 0) rfl rfl, rd_pre hP hK hN⟩ rfl rfl hl.1 rfl (lv_room (Nat.le_of_ble_eq_true rfl)) dX5_membersOf_2 ⟨Nat.le_of_ble_eq_true rfl, Nat.le_of_ble_eq_true rfl⟩) (fun r er => ?_)
  subst er
  refine lv_istore_n (lv' := [(2, .int (grnds ((F 2)) (1 <<< (nI x &&& 31)) 6)), (0, .ref (ad 0)), (1, .int (nI x))]) hx hb dX5_membersOf_5 rfl hl (by decide) rfl (fun ls hl => ?_)
  refine lv_iconst (v := 0) hx hb dX5_membersOf_6 (by decide) ?_
  refine lv_istore_n (lv' := [(3, .int 0), (2, .int (grnds ((F 2)) (1 <<< (nI x &&& 31)) 6)), (0, .ref (ad 0)), (1, .int (nI x))]) hx hb dX5_membersOf_7 rfl hl (by decide) rfl (fun ls hl => ?_)
  refine lv_iconst (v := 0) hx hb dX5_membersOf_8 (by decide) ?_
  refine lv_istore (lv' := [(4, .int 0), (3, .int 0), (2, .int (grnds ((F 2)) (1 <<< (nI x &&& 31)) 6)), (0, .ref (ad 0)), (1, .int (nI x))]) hx hb dX5_membersOf_9 hl (by decide) rfl (fun ls hl => ?_)
  have L_11 : ∀ n i : Nat, i ≤ 6 → 6 - i < n → ∀ (v3 : Int32), v3 = (memb (F 1) (grnds (F 2) (1 <<< (nI x &&& 31)) 6) i) → ∀ ls : Array Slot, lv_has ls 5 [(0, .ref (ad 0)), (1, .int (nI x)), (2, .int (grnds ((F 2)) (1 <<< (nI x &&& 31)) 6)), (4, .int (nI i)), (3, .int v3)] → W p l e (headSpec wsX5_membersOf (rmr 2 45)).room s m args below meth c s.heap [] 0 0 Q (F0 m 11 ls []) := by
    intro n
    induction n with
    | zero => intro i _ h; exact absurd h (Nat.not_lt_zero _)
    | succ n ih_11 =>
      intro i hi_11 hn_11 v3 ev3 ls hl
      subst ev3
      rcases Nat.lt_or_ge i 6 with h_i | h_i
      ·
        refine lv_iload hx hb dX5_membersOf_11 (lv_at hl 3 rfl) ?_
        refine lv_bipush (v := 6) hx hb dX5_membersOf_13 (by decide) ?_
        refine lv_icmp_ge (tgt := 47) hx hb dX5_membersOf_15 (by decide) (fun c_15 => absurd c_15 (lt_no h_i (by decide))) (fun c_15 => ?_)
        refine lv_iload_n hx hb dX5_membersOf_18 rfl (lv_at hl 4 rfl) ?_
        refine lv_iload_n hx hb dX5_membersOf_19 rfl (lv_at hl 2 rfl) ?_
        refine lv_iload hx hb dX5_membersOf_20 (lv_at hl 3 rfl) ?_
        refine vp_callSi (W.runS (As := [.int (grnds ((F 2)) (1 <<< (nI x &&& 31)) 6), .int (nI i)]) (rest := [.int (memb (F 1) (grnds (F 2) (1 <<< (nI x &&& 31)) 6) i)]) ⟨hx, hb, hml, hown, hts⟩ (k_X5_has l (grnds ((F 2)) (1 <<< (nI x &&& 31)) 6) (nI i)) (va_cwS 2 hts gX5_membersOf_X5_has rfl rfl rfl (by decide +kernel) ⟨Nat.le_of_ble_eq_true rfl, Nat.le_of_ble_eq_true rfl⟩) ⟨nf_blind, fun U hU hW => ⟨rfl, trivial⟩⟩ rfl rfl hl.1 rfl (lv_room (Nat.le_of_ble_eq_true rfl)) dX5_membersOf_22 ⟨Nat.le_of_ble_eq_true rfl, Nat.le_of_ble_eq_true rfl⟩) (fun r er => ?_)
        subst er
        have J_39 : ∀ (z0 : Int32), z0 = (if (hasB (grnds ((F 2)) (1 <<< (nI x &&& 31)) 6) (nI i)) = true then (F 1) i else 0) → ∀ ls : Array Slot, lv_has ls 5 [(0, .ref (ad 0)), (1, .int (nI x)), (2, .int (grnds ((F 2)) (1 <<< (nI x &&& 31)) 6)), (3, .int (memb (F 1) (grnds (F 2) (1 <<< (nI x &&& 31)) 6) i)), (4, .int (nI i))] → W p l e (headSpec wsX5_membersOf (rmr 2 45)).room s m args below meth c s.heap [] 0 0 Q (F0 m 39 ls [.int z0, .int (memb (F 1) (grnds (F 2) (1 <<< (nI x &&& 31)) 6) i)]) := by
          intro z0 ez0 ls hl
          subst ez0
          refine lv_ior hx hb dX5_membersOf_39 ?_
          refine lv_istore_n (lv' := [(3, .int ((memb (F 1) (grnds (F 2) (1 <<< (nI x &&& 31)) 6) i) ||| (if (hasB (grnds ((F 2)) (1 <<< (nI x &&& 31)) 6) (nI i)) = true then (F 1) i else 0))), (0, .ref (ad 0)), (1, .int (nI x)), (2, .int (grnds ((F 2)) (1 <<< (nI x &&& 31)) 6)), (4, .int (nI i))]) hx hb dX5_membersOf_40 rfl hl (by decide) rfl (fun ls hl => ?_)
          refine lv_iinc (v := nI (i + 1)) (lv' := [(4, .int (nI (i + 1))), (3, .int ((memb (F 1) (grnds (F 2) (1 <<< (nI x &&& 31)) 6) i) ||| (if (hasB (grnds ((F 2)) (1 <<< (nI x &&& 31)) 6) (nI i)) = true then (F 1) i else 0))), (0, .ref (ad 0)), (1, .int (nI x)), (2, .int (grnds ((F 2)) (1 <<< (nI x &&& 31)) 6))]) hx hb dX5_membersOf_41 hl (k := 4) rfl (by exact iinc_n _) (by decide) rfl (fun ls hl => ?_)
          refine lv_goto (tgt := 11) hx hb dX5_membersOf_44 (by decide) ?_
          exact ih_11 (i + 1) (by omega) (by omega) _ (by rfl) ls (lv_sub hl [2, 3, 4, 0, 1] rfl)
        refine lv_if_eq (tgt := 38) hx hb dX5_membersOf_25 (by decide) (fun c_25 => ?_) (fun c_25 => ?_)
        ·
          have c_25 := b2i_0 c_25
          refine lv_iconst (v := 0) hx hb dX5_membersOf_38 (by decide) ?_
          exact J_39 _ ((if_neg (b2i_bf c_25)).symm) ls (lv_sub hl [0, 1, 2, 4, 3] rfl)
        ·
          have c_25 := b2i_1 c_25
          refine lv_aload_n hx hb dX5_membersOf_28 rfl (lv_at hl 0 rfl) ?_
          refine va_get (D := D) (ci := 6) (v := .ref (ad 1)) (C := RX5) (T := TX5) (N := 20) hx hb hts (fun _ h => List.mem_cons_of_mem _ (List.mem_append_right _ (h))) hown hK hP 0 rfl rfl 0 (by decide) (hts _ (List.mem_of_getElem? (i := 1) rfl)) (fun _ h9 => h9) rfl dX5_membersOf_29 ?_
          refine lv_iload hx hb dX5_membersOf_32 (lv_at hl 3 rfl) ?_
          refine ld_i (k := i) hx hb hK hP 1 0 rfl rfl (by omega) (by decide) dX5_membersOf_34 ?_
          refine lv_goto (tgt := 39) hx hb dX5_membersOf_35 (by decide) ?_
          exact J_39 _ ((if_pos c_25).symm) ls (lv_sub hl [0, 1, 2, 4, 3] rfl)
      ·
        obtain rfl : i = 6 := by omega
        refine lv_iload hx hb dX5_membersOf_11 (lv_at hl 3 rfl) ?_
        refine lv_bipush (v := 6) hx hb dX5_membersOf_13 (by decide) ?_
        refine lv_icmp_ge (tgt := 47) hx hb dX5_membersOf_15 (by decide) (fun c_15 => ?_) (fun c_15 => absurd (lt_yes h_i (by decide)) c_15)
        refine lv_iload_n hx hb dX5_membersOf_47 rfl (lv_at hl 4 rfl) ?_
        subst hQ
        exact W.iret (v := memb (F 1) (grnds (F 2) (1 <<< (nI x &&& 31)) 6) 6) hx hb hr (fun t ht _ => ⟨_, rfl, (by rfl), ht⟩) (fun _ h => absurd h List.not_mem_nil) dX5_membersOf_48
  exact L_11 (6 + 1) 0 (by omega) (by omega) _ (by rfl) ls (lv_sub hl [3, 4, 2, 0, 1] rfl)

set_option maxHeartbeats 4000000 in
set_option maxRecDepth 100000 in
theorem k_X5_common (l : Launch) (D : va_G) (cI cZ : ClassId) (ad : Nat → Nat) (F : Nat → Nat → Int32) (g : Nat → Int32) (x0 : Int32)   : Met l yX5_common wsX5_common (rmr 1 21) (va_Pc [.ref (ad 0), .int x0] (rdP D ([(cI, .int), (cZ, .boolean)]) (mdW cI cZ ad F g))) (vp_Si (fun r => r = comm (F 11) x0 8)) 0 0 (fun _ => False) := by
  refine Met.ofW (cc := cX5_common) (maxL := 4) (ret := (some .int)) (by decide) rfl ?_
  intro p e s m args below meth c s₁ B hml hv
  obtain ⟨hargs, hP, hK, hN⟩ := hv
  have hx := B.exec
  have hb := B.bytes
  have hr := B.returns
  have hts := atoms_spec (ws := wsX5_common) B.pre
  have hown : s.vm.findClass RX5 = some m.cls := findClass_of_methodNamed B.named
  have hlocks := B.notSynchronized
  have hen : entryFrame m args 4 = entryFrame m ([.ref (ad 0), .int x0] : List Value).toArray 4 := by rw [hargs]
  rw [hen]
  have hl := lv_entry ([.ref (ad 0), .int x0]) (n := 4) (Nat.le_of_ble_eq_true rfl)
  rw [lg_entry_eq]
  generalize (lg_sl ([.ref (ad 0), .int x0]) ++ List.replicate (4 - (lg_sl ([.ref (ad 0), .int x0])).length) Slot.unset).toArray = ls at hl ⊢
  have hl : lv_has ls 4 [(0, .ref (ad 0)), (1, .int x0)] := hl
  generalize hQ : MQ below (vp_Si (fun r => r = comm (F 11) x0 8)) args s 0 0 (fun _ => False) = Q
  refine lv_iload_n hx hb dX5_common_0 rfl (lv_at hl 1 rfl) ?_
  have J_10 : ∀ (z0 : Int32), z0 = (if x0 = 0 then 0 else 7) → ∀ ls : Array Slot, lv_has ls 4 [(0, .ref (ad 0)), (1, .int x0)] → W p l e (headSpec wsX5_common (rmr 1 21)).room s m args below meth c s.heap [] 0 0 Q (F0 m 10 ls [.int z0]) := by
    intro z0 ez0 ls hl
    subst ez0
    refine lv_istore_n (lv' := [(2, .int (if x0 = 0 then 0 else 7)), (0, .ref (ad 0)), (1, .int x0)]) hx hb dX5_common_10 rfl hl (by decide) rfl (fun ls hl => ?_)
    refine lv_iconst (v := 0) hx hb dX5_common_11 (by decide) ?_
    refine lv_istore_n (lv' := [(3, .int 0), (2, .int (if x0 = 0 then 0 else 7)), (0, .ref (ad 0)), (1, .int x0)]) hx hb dX5_common_12 rfl hl (by decide) rfl (fun ls hl => ?_)
    have L_13 : ∀ n i : Nat, i ≤ 8 → 8 - i < n → ∀ (v2 : Int32), v2 = (comm (F 11) x0 i) → ∀ ls : Array Slot, lv_has ls 4 [(0, .ref (ad 0)), (1, .int x0), (3, .int (nI i)), (2, .int v2)] → W p l e (headSpec wsX5_common (rmr 1 21)).room s m args below meth c s.heap [] 0 0 Q (F0 m 13 ls []) := by
      intro n
      induction n with
      | zero => intro i _ h; exact absurd h (Nat.not_lt_zero _)
      | succ n ih_13 =>
        intro i hi_13 hn_13 v2 ev2 ls hl
        subst ev2
        rcases Nat.lt_or_ge i 8 with h_i | h_i
        ·
          refine lv_iload_n hx hb dX5_common_13 rfl (lv_at hl 2 rfl) ?_
          refine lv_bipush (v := 8) hx hb dX5_common_14 (by decide) ?_
          refine lv_icmp_ge (tgt := 47) hx hb dX5_common_16 (by decide) (fun c_16 => absurd c_16 (lt_no h_i (by decide))) (fun c_16 => ?_)
          refine lv_iload_n hx hb dX5_common_19 rfl (lv_at hl 3 rfl) ?_
          refine lv_iload_n hx hb dX5_common_20 rfl (lv_at hl 1 rfl) ?_
          refine lv_iload_n hx hb dX5_common_21 rfl (lv_at hl 2 rfl) ?_
          refine vp_callSi (W.runS (As := [.int x0, .int (nI i)]) (rest := [.int (comm (F 11) x0 i)]) ⟨hx, hb, hml, hown, hts⟩ (k_X5_has l x0 (nI i)) (va_cwS 2 hts gX5_common_X5_has rfl rfl rfl (by decide +kernel) ⟨Nat.le_of_ble_eq_true rfl, Nat.le_of_ble_eq_true rfl⟩) ⟨nf_blind, fun U hU hW => ⟨rfl, trivial⟩⟩ rfl rfl hl.1 rfl (lv_room (Nat.le_of_ble_eq_true rfl)) dX5_common_22 ⟨Nat.le_of_ble_eq_true rfl, Nat.le_of_ble_eq_true rfl⟩) (fun r er => ?_)
          subst er
          have J_39 : ∀ (z0 : Int32), z0 = (if (hasB x0 (nI i)) = true then (F 11) i else 7) → ∀ ls : Array Slot, lv_has ls 4 [(0, .ref (ad 0)), (1, .int x0), (2, .int (comm (F 11) x0 i)), (3, .int (nI i))] → W p l e (headSpec wsX5_common (rmr 1 21)).room s m args below meth c s.heap [] 0 0 Q (F0 m 39 ls [.int z0, .int (comm (F 11) x0 i)]) := by
            intro z0 ez0 ls hl
            subst ez0
            refine lv_iand hx hb dX5_common_39 ?_
            refine lv_istore_n (lv' := [(2, .int ((comm (F 11) x0 i) &&& (if (hasB x0 (nI i)) = true then (F 11) i else 7))), (0, .ref (ad 0)), (1, .int x0), (3, .int (nI i))]) hx hb dX5_common_40 rfl hl (by decide) rfl (fun ls hl => ?_)
            refine lv_iinc (v := nI (i + 1)) (lv' := [(3, .int (nI (i + 1))), (2, .int ((comm (F 11) x0 i) &&& (if (hasB x0 (nI i)) = true then (F 11) i else 7))), (0, .ref (ad 0)), (1, .int x0)]) hx hb dX5_common_41 hl (k := 3) rfl (by exact iinc_n _) (by decide) rfl (fun ls hl => ?_)
            refine lv_goto (tgt := 13) hx hb dX5_common_44 (by decide) ?_
            exact ih_13 (i + 1) (by omega) (by omega) _ (by rfl) ls (lv_sub hl [2, 3, 0, 1] rfl)
          refine lv_if_eq (tgt := 37) hx hb dX5_common_25 (by decide) (fun c_25 => ?_) (fun c_25 => ?_)
          ·
            have c_25 := b2i_0 c_25
            refine lv_bipush (v := 7) hx hb dX5_common_37 (by decide) ?_
            exact J_39 _ ((if_neg (b2i_bf c_25)).symm) ls (lv_sub hl [0, 1, 3, 2] rfl)
          ·
            have c_25 := b2i_1 c_25
            refine lv_aload_n hx hb dX5_common_28 rfl (lv_at hl 0 rfl) ?_
            refine va_get (D := D) (ci := 6) (v := .ref (ad 11)) (C := RX5) (T := TX5) (N := 20) hx hb hts (fun _ h => List.mem_cons_of_mem _ (List.mem_append_right _ (h))) hown hK hP 0 rfl rfl 11 (by decide) (hts _ (List.mem_of_getElem? (i := 1) rfl)) (fun _ h9 => h9) rfl dX5_common_29 ?_
            refine lv_iload_n hx hb dX5_common_32 rfl (lv_at hl 2 rfl) ?_
            refine ld_i (k := i) hx hb hK hP 11 0 rfl rfl (by omega) (by decide) dX5_common_33 ?_
            refine lv_goto (tgt := 39) hx hb dX5_common_34 (by decide) ?_
            exact J_39 _ ((if_pos c_25).symm) ls (lv_sub hl [0, 1, 3, 2] rfl)
        ·
          obtain rfl : i = 8 := by omega
          refine lv_iload_n hx hb dX5_common_13 rfl (lv_at hl 2 rfl) ?_
          refine lv_bipush (v := 8) hx hb dX5_common_14 (by decide) ?_
          refine lv_icmp_ge (tgt := 47) hx hb dX5_common_16 (by decide) (fun c_16 => ?_) (fun c_16 => absurd (lt_yes h_i (by decide)) c_16)
          refine lv_iload_n hx hb dX5_common_47 rfl (lv_at hl 3 rfl) ?_
          subst hQ
          exact W.iret (v := comm (F 11) x0 8) hx hb hr (fun t ht _ => ⟨_, rfl, (by rfl), ht⟩) (fun _ h => absurd h List.not_mem_nil) dX5_common_48
    exact L_13 (8 + 1) 0 (by omega) (by omega) _ (by rfl) ls (lv_sub hl [2, 3, 0, 1] rfl)
  refine lv_if_ne (tgt := 8) hx hb dX5_common_1 (by decide) (fun c_1 => ?_) (fun c_1 => ?_)
  ·
    refine lv_bipush (v := 7) hx hb dX5_common_8 (by decide) ?_
    exact J_10 _ ((if_neg c_1).symm) ls (lv_sub hl [0, 1] rfl)
  ·
    refine lv_iconst (v := 0) hx hb dX5_common_4 (by decide) ?_
    refine lv_goto (tgt := 10) hx hb dX5_common_5 (by decide) ?_
    exact J_10 _ ((if_pos c_1).symm) ls (lv_sub hl [0, 1] rfl)
end
section
set_option maxHeartbeats 4000000 in
set_option maxRecDepth 100000 in
theorem k_X5_isFor (l : Launch) (D : va_G) (cI cZ : ClassId) (ad : Nat → Nat) (F : Nat → Nat → Int32) (g : Nat → Int32) (x : Nat) (y : Nat)  (hk : x < 120) (hw : ∃ w, w < 14 ∧ F 7 x = nI w) : Met l yX5_isFor wsX5_isFor (rmr 3 69) (va_Pc [.ref (ad 0), .int (nI x), .int (nI y)] (rdP D ([(cI, .int), (cZ, .boolean)]) (mdW cI cZ ad F g))) (vp_Si (fun r => r = b2i (mFor F x y))) 0 0 (fun _ => False) := by
  refine Met.ofW (cc := cX5_isFor) (maxL := 3) (ret := (some .boolean)) (by decide) rfl ?_
  intro p e s m args below meth c s₁ B hml hv
  obtain ⟨hargs, hP, hK, hN⟩ := hv
  have hx := B.exec
  have hb := B.bytes
  have hr := B.returns
  have hts := atoms_spec (ws := wsX5_isFor) B.pre
  have hown : s.vm.findClass RX5 = some m.cls := findClass_of_methodNamed B.named
  have hlocks := B.notSynchronized
  have hen : entryFrame m args 3 = entryFrame m ([.ref (ad 0), .int (nI x), .int (nI y)] : List Value).toArray 3 := by rw [hargs]
  rw [hen]
  have hl := lv_entry ([.ref (ad 0), .int (nI x), .int (nI y)]) (n := 3) (Nat.le_of_ble_eq_true rfl)
  rw [lg_entry_eq]
  generalize (lg_sl ([.ref (ad 0), .int (nI x), .int (nI y)]) ++ List.replicate (3 - (lg_sl ([.ref (ad 0), .int (nI x), .int (nI y)])).length) Slot.unset).toArray = ls at hl ⊢
  have hl : lv_has ls 3 [(0, .ref (ad 0)), (1, .int (nI x)), (2, .int (nI y))] := hl
  generalize hQ : MQ below (vp_Si (fun r => r = b2i (mFor F x y))) args s 0 0 (fun _ => False) = Q
  refine lv_aload_n hx hb dX5_isFor_0 rfl (lv_at hl 0 rfl) ?_
  refine va_get (D := D) (ci := 6) (v := .ref (ad 7)) (C := RX5) (T := TX5) (N := 20) hx hb hts (fun _ h => List.mem_cons_of_mem _ (List.mem_append_right _ (h))) hown hK hP 0 rfl rfl 7 (by decide) (hts _ (List.mem_of_getElem? (i := 1) rfl)) (fun _ h9 => h9) rfl dX5_isFor_1 ?_
  refine lv_iload_n hx hb dX5_isFor_4 rfl (lv_at hl 1 rfl) ?_
  refine ld_i (k := x) hx hb hK hP 7 0 rfl rfl (by omega) (by decide) dX5_isFor_5 ?_
  refine lv_bipush (v := 8) hx hb dX5_isFor_6 (by decide) ?_
  have J_46 : ∀ (z0 : Int32), z0 = (if 8 ≤ ((F 7) x) then b2i (hasB (mMem F (i2n ((F 7) x) - 8)) (nI y)) else if ((F 7) x) = (nI y) then 1 else 0) → ∀ ls : Array Slot, lv_has ls 3 [(0, .ref (ad 0)), (1, .int (nI x)), (2, .int (nI y))] → W p l e (headSpec wsX5_isFor (rmr 3 69)).room s m args below meth c s.heap [] 0 0 Q (F0 m 46 ls [.int z0]) := by
    intro z0 ez0 ls hl
    subst ez0
    subst hQ
    have hrt : (if 8 ≤ ((F 7) x) then b2i (hasB (mMem F (i2n ((F 7) x) - 8)) (nI y)) else if ((F 7) x) = (nI y) then 1 else 0 : Int32) = b2i (mFor F x y) := by exact mFor_if F x y
    exact W.zret (v := if 8 ≤ ((F 7) x) then b2i (hasB (mMem F (i2n ((F 7) x) - 8)) (nI y)) else if ((F 7) x) = (nI y) then 1 else 0) hx hb hr (by rw [hrt]; exact nar_b2i _) (fun t ht _ => ⟨_, rfl, hrt, ht⟩) (fun _ h => absurd h List.not_mem_nil) dX5_isFor_46
  refine lv_icmp_ge (tgt := 29) hx hb dX5_isFor_8 (by decide) (fun c_8 => ?_) (fun c_8 => ?_)
  ·
    refine lv_aload_n hx hb dX5_isFor_29 rfl (lv_at hl 0 rfl) ?_
    refine lv_aload_n hx hb dX5_isFor_30 rfl (lv_at hl 0 rfl) ?_
    refine va_get (D := D) (ci := 6) (v := .ref (ad 7)) (C := RX5) (T := TX5) (N := 20) hx hb hts (fun _ h => List.mem_cons_of_mem _ (List.mem_append_right _ (h))) hown hK hP 0 rfl rfl 7 (by decide) (hts _ (List.mem_of_getElem? (i := 1) rfl)) (fun _ h9 => h9) rfl dX5_isFor_31 ?_
    refine lv_iload_n hx hb dX5_isFor_34 rfl (lv_at hl 1 rfl) ?_
    refine ld_i (k := x) hx hb hK hP 7 0 rfl rfl (by omega) (by decide) dX5_isFor_35 ?_
    refine lv_bipush (v := 8) hx hb dX5_isFor_36 (by decide) ?_
    refine lv_isub hx hb dX5_isFor_38 ?_
    refine top_eq (y := nI (i2n (F 7 x) - 8)) (by exact sub8 hw c_8) ?_
    refine vp_callSi (W.runV (As := [.int (nI (i2n (F 7 x) - 8))]) (rest := []) ⟨hx, hb, hml, hown, hts⟩ (k_X5_membersOf l D cI cZ ad F g (i2n (F 7 x) - 8)) (cwV 1 hts gX5_isFor_X5_membersOf rfl rfl rfl (by decide +kernel) ⟨Nat.le_of_ble_eq_true rfl, Nat.le_of_ble_eq_true rfl⟩) ⟨rd_blind, va_recv hK hP (ci := 6) (q0 := 0) rfl rfl, rd_pre hP hK hN⟩ rfl rfl hl.1 rfl (lv_room (Nat.le_of_ble_eq_true rfl)) dX5_isFor_39 ⟨Nat.le_of_ble_eq_true rfl, Nat.le_of_ble_eq_true rfl⟩) (fun r er => ?_)
    subst er
    refine lv_iload_n hx hb dX5_isFor_42 rfl (lv_at hl 2 rfl) ?_
    refine vp_callSi (W.runS (As := [.int (mMem F (i2n ((F 7) x) - 8)), .int (nI y)]) (rest := []) ⟨hx, hb, hml, hown, hts⟩ (k_X5_has l (mMem F (i2n ((F 7) x) - 8)) (nI y)) (va_cwS 2 hts gX5_isFor_X5_has rfl rfl rfl (by decide +kernel) ⟨Nat.le_of_ble_eq_true rfl, Nat.le_of_ble_eq_true rfl⟩) ⟨nf_blind, fun U hU hW => ⟨rfl, trivial⟩⟩ rfl rfl hl.1 rfl (lv_room (Nat.le_of_ble_eq_true rfl)) dX5_isFor_43 ⟨Nat.le_of_ble_eq_true rfl, Nat.le_of_ble_eq_true rfl⟩) (fun r er => ?_)
    subst er
    exact J_46 _ ((if_pos c_8).symm) ls (lv_sub hl [0, 1, 2] rfl)
  ·
    refine lv_aload_n hx hb dX5_isFor_11 rfl (lv_at hl 0 rfl) ?_
    refine va_get (D := D) (ci := 6) (v := .ref (ad 7)) (C := RX5) (T := TX5) (N := 20) hx hb hts (fun _ h => List.mem_cons_of_mem _ (List.mem_append_right _ (h))) hown hK hP 0 rfl rfl 7 (by decide) (hts _ (List.mem_of_getElem? (i := 1) rfl)) (fun _ h9 => h9) rfl dX5_isFor_12 ?_
    refine lv_iload_n hx hb dX5_isFor_15 rfl (lv_at hl 1 rfl) ?_
    refine ld_i (k := x) hx hb hK hP 7 0 rfl rfl (by omega) (by decide) dX5_isFor_16 ?_
    refine lv_iload_n hx hb dX5_isFor_17 rfl (lv_at hl 2 rfl) ?_
    refine lv_icmp_ne (tgt := 25) hx hb dX5_isFor_18 (by decide) (fun c_18 => ?_) (fun c_18 => ?_)
    ·
      refine lv_iconst (v := 0) hx hb dX5_isFor_25 (by decide) ?_
      refine lv_goto (tgt := 46) hx hb dX5_isFor_26 (by decide) ?_
      exact J_46 _ (((if_neg c_8).trans (if_neg c_18)).symm) ls (lv_sub hl [0, 1, 2] rfl)
    ·
      refine lv_iconst (v := 1) hx hb dX5_isFor_21 (by decide) ?_
      refine lv_goto (tgt := 46) hx hb dX5_isFor_22 (by decide) ?_
      exact J_46 _ (((if_neg c_8).trans (if_pos c_18)).symm) ls (lv_sub hl [0, 1, 2] rfl)

set_option maxHeartbeats 4000000 in
set_option maxRecDepth 100000 in
theorem k_X5_rightsOf (l : Launch) (D : va_G) (cI cZ : ClassId) (ad : Nat → Nat) (F : Nat → Nat → Int32) (g : Nat → Int32) (x : Nat) (y : Nat)  (nn : Nat) (hM : okM F g nn) (hy : y < nn) : Met l yX5_rightsOf wsX5_rightsOf (rmr 4 91) (va_Pc [.ref (ad 0), .int (nI x), .int (nI y)] (rdP D ([(cI, .int), (cZ, .boolean)]) (mdW cI cZ ad F g))) (vp_Si (fun r => r = mRights F x y)) 0 0 (fun _ => False) := by
  refine Met.ofW (cc := cX5_rightsOf) (maxL := 9) (ret := (some .int)) (by decide) rfl ?_
  intro p e s m args below meth c s₁ B hml hv
  obtain ⟨hargs, hP, hK, hN⟩ := hv
  have hx := B.exec
  have hb := B.bytes
  have hr := B.returns
  have hts := atoms_spec (ws := wsX5_rightsOf) B.pre
  have hown : s.vm.findClass RX5 = some m.cls := findClass_of_methodNamed B.named
  have hlocks := B.notSynchronized
  have hen : entryFrame m args 9 = entryFrame m ([.ref (ad 0), .int (nI x), .int (nI y)] : List Value).toArray 9 := by rw [hargs]
  rw [hen]
  have hl := lv_entry ([.ref (ad 0), .int (nI x), .int (nI y)]) (n := 9) (Nat.le_of_ble_eq_true rfl)
  rw [lg_entry_eq]
  generalize (lg_sl ([.ref (ad 0), .int (nI x), .int (nI y)]) ++ List.replicate (9 - (lg_sl ([.ref (ad 0), .int (nI x), .int (nI y)])).length) Slot.unset).toArray = ls at hl ⊢
  have hl : lv_has ls 9 [(0, .ref (ad 0)), (1, .int (nI x)), (2, .int (nI y))] := hl
  generalize hQ : MQ below (vp_Si (fun r => r = mRights F x y)) args s 0 0 (fun _ => False) = Q
  have hnn := hM.2.1.2
  refine lv_aload_n hx hb dX5_rightsOf_0 rfl (lv_at hl 0 rfl) ?_
  refine va_get (D := D) (ci := 6) (v := .ref (ad 4)) (C := RX5) (T := TX5) (N := 20) hx hb hts (fun _ h => List.mem_cons_of_mem _ (List.mem_append_right _ (h))) hown hK hP 0 rfl rfl 3 (by decide) (hts _ (List.mem_of_getElem? (i := 1) rfl)) (fun _ h9 => h9) rfl dX5_rightsOf_1 ?_
  refine lv_iload_n hx hb dX5_rightsOf_4 rfl (lv_at hl 2 rfl) ?_
  refine ld_i (k := y) hx hb hK hP 4 0 rfl rfl (by omega) (by decide) dX5_rightsOf_5 ?_
  refine lv_iload_n hx hb dX5_rightsOf_6 rfl (lv_at hl 1 rfl) ?_
  refine lv_icmp_ne (tgt := 13) hx hb dX5_rightsOf_7 (by decide) (fun c_7 => ?_) (fun c_7 => ?_)
  ·
    have eR : mRights F x y = mChain F x y (y + 1) y (0, 0) := if_neg c_7
    refine lv_iconst (v := 0) hx hb dX5_rightsOf_13 (by decide) ?_
    refine lv_istore_n (lv' := [(3, .int 0), (0, .ref (ad 0)), (1, .int (nI x)), (2, .int (nI y))]) hx hb dX5_rightsOf_14 rfl hl (by decide) rfl (fun ls hl => ?_)
    refine lv_iconst (v := 0) hx hb dX5_rightsOf_15 (by decide) ?_
    refine lv_istore (lv' := [(4, .int 0), (3, .int 0), (0, .ref (ad 0)), (1, .int (nI x)), (2, .int (nI y))]) hx hb dX5_rightsOf_16 hl (by decide) rfl (fun ls hl => ?_)
    refine lv_iload_n hx hb dX5_rightsOf_18 rfl (lv_at hl 4 rfl) ?_
    refine lv_istore (lv' := [(5, .int (nI y)), (4, .int 0), (3, .int 0), (0, .ref (ad 0)), (1, .int (nI x)), (2, .int (nI y))]) hx hb dX5_rightsOf_19 hl (by decide) rfl (fun ls hl => ?_)
    refine lv_iconst (v := 1) hx hb dX5_rightsOf_21 (by decide) ?_
    refine lv_istore (lv' := [(6, .int 1), (5, .int (nI y)), (4, .int 0), (3, .int 0), (0, .ref (ad 0)), (1, .int (nI x)), (2, .int (nI y))]) hx hb dX5_rightsOf_22 hl (by decide) rfl (fun ls hl => ?_)
    have E_24 : ∀ (a : Nat) (s3 s4 : Int32), (s3 = mChain F x y (y + 1) y (0, 0)) → ∀ ls : Array Slot, lv_has ls 9 [(0, .ref (ad 0)), (1, .int (nI x)), (2, .int (nI y)), (3, .int s3), (4, .int s4), (5, .int (nI a)), (6, .int 0)] → W p l e (headSpec wsX5_rightsOf (rmr 4 91)).room s m args below meth c s.heap [] 0 0 Q (F0 m 24 ls []) := by
      intro a s3 s4 hq ls hl
      refine lv_iload hx hb dX5_rightsOf_24 (lv_at hl 6 rfl) ?_
      refine lv_if_eq (tgt := 208) hx hb dX5_rightsOf_26 (by decide) (fun c_26 => ?_) (fun c_26 => absurd (by decide) c_26)
      refine lv_iload_n hx hb dX5_rightsOf_208 rfl (lv_at hl 3 rfl) ?_
      subst hQ
      exact W.iret (v := s3) hx hb hr (fun t ht _ => ⟨_, rfl, (by rw [eR]; exact hq), ht⟩) (fun _ h => absurd h List.not_mem_nil) dX5_rightsOf_209
    have L_24 : ∀ n : Nat, ∀ (a : Nat) (s3 s4 : Int32), (a < nn) → (a < n) → (mChain F x y n a (s3, s4) = mChain F x y (y + 1) y (0, 0)) → ∀ ls : Array Slot, lv_has ls 9 [(0, .ref (ad 0)), (1, .int (nI x)), (2, .int (nI y)), (3, .int s3), (4, .int s4), (5, .int (nI a)), (6, .int 1)] → W p l e (headSpec wsX5_rightsOf (rmr 4 91)).room s m args below meth c s.heap [] 0 0 Q (F0 m 24 ls []) := by
      intro n
      induction n with
      | zero => intro a s3 s4 ha hf hq ls hl; exact absurd hf (Nat.not_lt_zero _)
      | succ n ih_24 =>
        intro a s3 s4 ha hf hq ls hl
        have hlen := (hM.len ha).2
        refine lv_iload hx hb dX5_rightsOf_24 (lv_at hl 6 rfl) ?_
        refine lv_if_eq (tgt := 208) hx hb dX5_rightsOf_26 (by decide) (fun c_26 => absurd c_26 (by decide)) (fun c_26 => ?_)
        refine lv_bipush (v := 6) hx hb dX5_rightsOf_29 (by decide) ?_
        refine lv_iload hx hb dX5_rightsOf_31 (lv_at hl 5 rfl) ?_
        refine imul_n (x := 6) (y := a) hx hb dX5_rightsOf_33 ?_
        refine lv_istore (lv' := [(7, .int (nI (6 * a))), (0, .ref (ad 0)), (1, .int (nI x)), (2, .int (nI y)), (3, .int s3), (4, .int s4), (5, .int (nI a)), (6, .int 1)]) hx hb dX5_rightsOf_34 hl (by decide) rfl (fun ls hl => ?_)
        have L_36 : ∀ n i : Nat, i ≤ (i2n (F 6 a)) → (i2n (F 6 a)) - i < n → ∀ (v3 : Int32), v3 = ((mRow F x y a i (s3, s4)).1) → ∀ (v4 : Int32), v4 = ((mRow F x y a i (s3, s4)).2) → ∀ ls : Array Slot, lv_has ls 9 [(0, .ref (ad 0)), (1, .int (nI x)), (2, .int (nI y)), (5, .int (nI a)), (6, .int 1), (7, .int (nI (6 * a + i))), (3, .int v3), (4, .int v4)] → W p l e (headSpec wsX5_rightsOf (rmr 4 91)).room s m args below meth c s.heap [] 0 0 Q (F0 m 36 ls []) := by
          intro n
          induction n with
          | zero => intro i _ h; exact absurd h (Nat.not_lt_zero _)
          | succ n ih_36 =>
            intro i hi_36 hn_36 v3 ev3 v4 ev4 ls hl
            subst ev3
            subst ev4
            rcases Nat.lt_or_ge i (i2n (F 6 a)) with h_i | h_i
            ·
              refine lv_iload hx hb dX5_rightsOf_36 (lv_at hl 5 rfl) ?_
              refine lv_bipush (v := 6) hx hb dX5_rightsOf_38 (by decide) ?_
              refine lv_iload hx hb dX5_rightsOf_40 (lv_at hl 3 rfl) ?_
              refine imul_n (x := 6) (y := a) hx hb dX5_rightsOf_42 ?_
              refine lv_aload_n hx hb dX5_rightsOf_43 rfl (lv_at hl 0 rfl) ?_
              refine va_get (D := D) (ci := 6) (v := .ref (ad 6)) (C := RX5) (T := TX5) (N := 20) hx hb hts (fun _ h => List.mem_cons_of_mem _ (List.mem_append_right _ (h))) hown hK hP 0 rfl rfl 5 (by decide) (hts _ (List.mem_of_getElem? (i := 2) rfl)) (fun _ h9 => h9) rfl dX5_rightsOf_44 ?_
              refine lv_iload hx hb dX5_rightsOf_47 (lv_at hl 3 rfl) ?_
              refine ld_i (k := a) hx hb hK hP 6 0 rfl rfl (by omega) (by decide) dX5_rightsOf_49 ?_
              refine top_eq (y := nI (i2n (F 6 a))) (by exact (hM.len ha).1) ?_
              refine iadd_n (x := 6 * a) (y := i2n (F 6 a)) hx hb dX5_rightsOf_50 ?_
              refine lv_icmp_ge (tgt := 158) hx hb dX5_rightsOf_51 (by decide) (fun c_51 => absurd c_51 (nI_ge (by omega) (by omega))) (fun c_51 => ?_)
              refine lv_iload hx hb dX5_rightsOf_54 (lv_at hl 3 rfl) ?_
              refine lv_iload_n hx hb dX5_rightsOf_56 rfl (lv_at hl 2 rfl) ?_
              have J_94 : ∀ (z0 : Int32), z0 = (mCnt F a y (6 * a + i)) → ∀ ls : Array Slot, lv_has ls 9 [(0, .ref (ad 0)), (1, .int (nI x)), (2, .int (nI y)), (3, .int ((mRow F x y a i (s3, s4)).1)), (4, .int ((mRow F x y a i (s3, s4)).2)), (5, .int (nI a)), (6, .int 1), (7, .int (nI (6 * a + i)))] → W p l e (headSpec wsX5_rightsOf (rmr 4 91)).room s m args below meth c s.heap [] 0 0 Q (F0 m 94 ls [.int z0]) := by
                intro z0 ez0 ls hl
                subst ez0
                refine lv_istore (lv' := [(8, .int (mCnt F a y (6 * a + i))), (0, .ref (ad 0)), (1, .int (nI x)), (2, .int (nI y)), (3, .int ((mRow F x y a i (s3, s4)).1)), (4, .int ((mRow F x y a i (s3, s4)).2)), (5, .int (nI a)), (6, .int 1), (7, .int (nI (6 * a + i)))]) hx hb dX5_rightsOf_94 hl (by decide) rfl (fun ls hl => ?_)
                refine lv_iload hx hb dX5_rightsOf_96 (lv_at hl 0 rfl) ?_
                have J_152 : ∀ (y3 : Int32), y3 = (if (mCnt F a y (6 * a + i)) = 0 then (mRow F x y a i (s3, s4)).1 else if (mFor F (6 * a + i) x) = true then ((mRow F x y a i (s3, s4)).1) ||| (if ((F 8) (6 * a + i)) = 0 then 0 else ((F 9) (6 * a + i)) &&& (((mRow F x y a i (s3, s4)).2) ^^^ (-1))) else (mRow F x y a i (s3, s4)).1) → ∀ (y4 : Int32), y4 = (if (mCnt F a y (6 * a + i)) = 0 then (mRow F x y a i (s3, s4)).2 else if (mFor F (6 * a + i) x) = true then ((mRow F x y a i (s3, s4)).2) ||| ((F 9) (6 * a + i)) else (mRow F x y a i (s3, s4)).2) → ∀ ls : Array Slot, lv_has ls 9 [(0, .ref (ad 0)), (1, .int (nI x)), (2, .int (nI y)), (3, .int y3), (4, .int y4), (5, .int (nI a)), (6, .int 1), (7, .int (nI (6 * a + i))), (8, .int (mCnt F a y (6 * a + i)))] → W p l e (headSpec wsX5_rightsOf (rmr 4 91)).room s m args below meth c s.heap [] 0 0 Q (F0 m 152 ls []) := by
                  intro y3 ey3 y4 ey4 ls hl
                  subst ey3
                  subst ey4
                  refine lv_iinc (v := nI (6 * a + i + 1)) (lv' := [(7, .int (nI (6 * a + i + 1))), (0, .ref (ad 0)), (1, .int (nI x)), (2, .int (nI y)), (3, .int (if (mCnt F a y (6 * a + i)) = 0 then (mRow F x y a i (s3, s4)).1 else if (mFor F (6 * a + i) x) = true then ((mRow F x y a i (s3, s4)).1) ||| (if ((F 8) (6 * a + i)) = 0 then 0 else ((F 9) (6 * a + i)) &&& (((mRow F x y a i (s3, s4)).2) ^^^ (-1))) else (mRow F x y a i (s3, s4)).1)), (4, .int (if (mCnt F a y (6 * a + i)) = 0 then (mRow F x y a i (s3, s4)).2 else if (mFor F (6 * a + i) x) = true then ((mRow F x y a i (s3, s4)).2) ||| ((F 9) (6 * a + i)) else (mRow F x y a i (s3, s4)).2)), (5, .int (nI a)), (6, .int 1), (8, .int (mCnt F a y (6 * a + i)))]) hx hb dX5_rightsOf_152 hl (k := 7) rfl (by exact iinc_n _) (by decide) rfl (fun ls hl => ?_)
                  refine lv_goto (tgt := 36) hx hb dX5_rightsOf_155 (by decide) ?_
                  exact ih_36 (i + 1) (by omega) (by omega) _ (by exact mRow_1 F x y a i (s3, s4)) _ (by exact mRow_2 F x y a i (s3, s4)) ls (lv_sub hl [1, 2, 3, 6, 7, 0, 4, 5] rfl)
                refine lv_if_eq (tgt := 152) hx hb dX5_rightsOf_98 (by decide) (fun c_98 => ?_) (fun c_98 => ?_)
                ·
                  exact J_152 _ ((if_pos c_98).symm) _ ((if_pos c_98).symm) ls (lv_sub hl [1, 2, 3, 4, 5, 6, 7, 8, 0] rfl)
                ·
                  refine lv_aload_n hx hb dX5_rightsOf_101 rfl (lv_at hl 1 rfl) ?_
                  refine lv_iload hx hb dX5_rightsOf_102 (lv_at hl 8 rfl) ?_
                  refine lv_iload_n hx hb dX5_rightsOf_104 rfl (lv_at hl 2 rfl) ?_
                  refine vp_callSi (W.runV (As := [.int (nI (6 * a + i)), .int (nI x)]) (rest := []) ⟨hx, hb, hml, hown, hts⟩ (k_X5_isFor l D cI cZ ad F g (6 * a + i) x (by omega) (hM.who ha (by omega))) (cwV 2 hts gX5_rightsOf_X5_isFor rfl rfl rfl (by decide +kernel) ⟨Nat.le_of_ble_eq_true rfl, Nat.le_of_ble_eq_true rfl⟩) ⟨rd_blind, va_recv hK hP (ci := 6) (q0 := 0) rfl rfl, rd_pre hP hK hN⟩ rfl rfl hl.1 rfl (lv_room (Nat.le_of_ble_eq_true rfl)) dX5_rightsOf_105 ⟨Nat.le_of_ble_eq_true rfl, Nat.le_of_ble_eq_true rfl⟩) (fun r er => ?_)
                  subst er
                  refine lv_if_eq (tgt := 152) hx hb dX5_rightsOf_108 (by decide) (fun c_108 => ?_) (fun c_108 => ?_)
                  ·
                    have c_108 := b2i_0 c_108
                    exact J_152 _ (((if_neg c_98).trans (if_neg (b2i_bf c_108))).symm) _ (((if_neg c_98).trans (if_neg (b2i_bf c_108))).symm) ls (lv_sub hl [1, 2, 3, 4, 5, 6, 7, 8, 0] rfl)
                  ·
                    have c_108 := b2i_1 c_108
                    refine lv_iload_n hx hb dX5_rightsOf_111 rfl (lv_at hl 4 rfl) ?_
                    refine lv_aload_n hx hb dX5_rightsOf_112 rfl (lv_at hl 1 rfl) ?_
                    refine va_get (D := D) (ci := 6) (v := .ref (ad 8)) (C := RX5) (T := TX5) (N := 20) hx hb hts (fun _ h => List.mem_cons_of_mem _ (List.mem_append_right _ (h))) hown hK hP 0 rfl rfl 8 (by decide) (hts _ (List.mem_of_getElem? (i := 4) rfl)) (fun _ h9 => h9) rfl dX5_rightsOf_113 ?_
                    refine lv_iload hx hb dX5_rightsOf_116 (lv_at hl 8 rfl) ?_
                    refine ld_z (k := 6 * a + i) hx hb hK hP 8 1 rfl rfl (by omega) (by decide) dX5_rightsOf_118 ?_
                    have J_138 : ∀ (z0 : Int32), z0 = (if ((F 8) (6 * a + i)) = 0 then 0 else ((F 9) (6 * a + i)) &&& (((mRow F x y a i (s3, s4)).2) ^^^ (-1))) → ∀ ls : Array Slot, lv_has ls 9 [(0, .ref (ad 0)), (1, .int (nI x)), (2, .int (nI y)), (3, .int ((mRow F x y a i (s3, s4)).1)), (4, .int ((mRow F x y a i (s3, s4)).2)), (5, .int (nI a)), (6, .int 1), (7, .int (nI (6 * a + i))), (8, .int (mCnt F a y (6 * a + i)))] → W p l e (headSpec wsX5_rightsOf (rmr 4 91)).room s m args below meth c s.heap [] 0 0 Q (F0 m 138 ls [.int z0, .int ((mRow F x y a i (s3, s4)).1)]) := by
                      intro z0 ez0 ls hl
                      subst ez0
                      refine lv_ior hx hb dX5_rightsOf_138 ?_
                      refine lv_istore_n (lv' := [(3, .int (((mRow F x y a i (s3, s4)).1) ||| (if ((F 8) (6 * a + i)) = 0 then 0 else ((F 9) (6 * a + i)) &&& (((mRow F x y a i (s3, s4)).2) ^^^ (-1))))), (0, .ref (ad 0)), (1, .int (nI x)), (2, .int (nI y)), (4, .int ((mRow F x y a i (s3, s4)).2)), (5, .int (nI a)), (6, .int 1), (7, .int (nI (6 * a + i))), (8, .int (mCnt F a y (6 * a + i)))]) hx hb dX5_rightsOf_139 rfl hl (by decide) rfl (fun ls hl => ?_)
                      refine lv_iload hx hb dX5_rightsOf_140 (lv_at hl 4 rfl) ?_
                      refine lv_aload_n hx hb dX5_rightsOf_142 rfl (lv_at hl 1 rfl) ?_
                      refine va_get (D := D) (ci := 6) (v := .ref (ad 9)) (C := RX5) (T := TX5) (N := 20) hx hb hts (fun _ h => List.mem_cons_of_mem _ (List.mem_append_right _ (h))) hown hK hP 0 rfl rfl 9 (by decide) (hts _ (List.mem_of_getElem? (i := 5) rfl)) (fun _ h9 => h9) rfl dX5_rightsOf_143 ?_
                      refine lv_iload hx hb dX5_rightsOf_146 (lv_at hl 7 rfl) ?_
                      refine ld_i (k := 6 * a + i) hx hb hK hP 9 0 rfl rfl (by omega) (by decide) dX5_rightsOf_148 ?_
                      refine lv_ior hx hb dX5_rightsOf_149 ?_
                      refine lv_istore (lv' := [(4, .int (((mRow F x y a i (s3, s4)).2) ||| ((F 9) (6 * a + i)))), (3, .int (((mRow F x y a i (s3, s4)).1) ||| (if ((F 8) (6 * a + i)) = 0 then 0 else ((F 9) (6 * a + i)) &&& (((mRow F x y a i (s3, s4)).2) ^^^ (-1))))), (0, .ref (ad 0)), (1, .int (nI x)), (2, .int (nI y)), (5, .int (nI a)), (6, .int 1), (7, .int (nI (6 * a + i))), (8, .int (mCnt F a y (6 * a + i)))]) hx hb dX5_rightsOf_150 hl (by decide) rfl (fun ls hl => ?_)
                      exact J_152 _ (((if_neg c_98).trans (if_pos c_108)).symm) _ (((if_neg c_98).trans (if_pos c_108)).symm) ls (lv_sub hl [2, 3, 4, 1, 0, 5, 6, 7, 8] rfl)
                    refine lv_if_eq (tgt := 137) hx hb dX5_rightsOf_119 (by decide) (fun c_119 => ?_) (fun c_119 => ?_)
                    ·
                      refine lv_iconst (v := 0) hx hb dX5_rightsOf_137 (by decide) ?_
                      exact J_138 _ ((if_pos c_119).symm) ls (lv_sub hl [1, 2, 3, 4, 5, 6, 7, 8, 0] rfl)
                    ·
                      refine lv_aload_n hx hb dX5_rightsOf_122 rfl (lv_at hl 1 rfl) ?_
                      refine va_get (D := D) (ci := 6) (v := .ref (ad 9)) (C := RX5) (T := TX5) (N := 20) hx hb hts (fun _ h => List.mem_cons_of_mem _ (List.mem_append_right _ (h))) hown hK hP 0 rfl rfl 9 (by decide) (hts _ (List.mem_of_getElem? (i := 5) rfl)) (fun _ h9 => h9) rfl dX5_rightsOf_123 ?_
                      refine lv_iload hx hb dX5_rightsOf_126 (lv_at hl 8 rfl) ?_
                      refine ld_i (k := 6 * a + i) hx hb hK hP 9 0 rfl rfl (by omega) (by decide) dX5_rightsOf_128 ?_
                      refine lv_iload hx hb dX5_rightsOf_129 (lv_at hl 5 rfl) ?_
                      refine lv_iconst (v := (-1)) hx hb dX5_rightsOf_131 (by decide) ?_
                      refine lv_ixor hx hb dX5_rightsOf_132 ?_
                      refine lv_iand hx hb dX5_rightsOf_133 ?_
                      refine lv_goto (tgt := 138) hx hb dX5_rightsOf_134 (by decide) ?_
                      exact J_138 _ ((if_neg c_119).symm) ls (lv_sub hl [1, 2, 3, 4, 5, 6, 7, 8, 0] rfl)
              refine lv_icmp_ne (tgt := 79) hx hb dX5_rightsOf_57 (by decide) (fun c_57 => ?_) (fun c_57 => ?_)
              ·
                refine lv_aload_n hx hb dX5_rightsOf_79 rfl (lv_at hl 0 rfl) ?_
                refine va_get (D := D) (ci := 6) (v := .ref (ad 10)) (C := RX5) (T := TX5) (N := 20) hx hb hts (fun _ h => List.mem_cons_of_mem _ (List.mem_append_right _ (h))) hown hK hP 0 rfl rfl 10 (by decide) (hts _ (List.mem_of_getElem? (i := 3) rfl)) (fun _ h9 => h9) rfl dX5_rightsOf_80 ?_
                refine lv_iload hx hb dX5_rightsOf_83 (lv_at hl 5 rfl) ?_
                refine ld_i (k := 6 * a + i) hx hb hK hP 10 0 rfl rfl (by omega) (by decide) dX5_rightsOf_85 ?_
                refine lv_if_eq (tgt := 93) hx hb dX5_rightsOf_86 (by decide) (fun c_86 => ?_) (fun c_86 => ?_)
                ·
                  refine lv_iconst (v := 0) hx hb dX5_rightsOf_93 (by decide) ?_
                  exact J_94 _ (((if_neg c_57).trans (if_pos c_86)).symm) ls (lv_sub hl [0, 1, 2, 6, 7, 3, 4, 5] rfl)
                ·
                  refine lv_iconst (v := 1) hx hb dX5_rightsOf_89 (by decide) ?_
                  refine lv_goto (tgt := 94) hx hb dX5_rightsOf_90 (by decide) ?_
                  exact J_94 _ (((if_neg c_57).trans (if_neg c_86)).symm) ls (lv_sub hl [0, 1, 2, 6, 7, 3, 4, 5] rfl)
              ·
                refine lv_aload_n hx hb dX5_rightsOf_60 rfl (lv_at hl 0 rfl) ?_
                refine va_get (D := D) (ci := 6) (v := .ref (ad 10)) (C := RX5) (T := TX5) (N := 20) hx hb hts (fun _ h => List.mem_cons_of_mem _ (List.mem_append_right _ (h))) hown hK hP 0 rfl rfl 10 (by decide) (hts _ (List.mem_of_getElem? (i := 3) rfl)) (fun _ h9 => h9) rfl dX5_rightsOf_61 ?_
                refine lv_iload hx hb dX5_rightsOf_64 (lv_at hl 5 rfl) ?_
                refine ld_i (k := 6 * a + i) hx hb hK hP 10 0 rfl rfl (by omega) (by decide) dX5_rightsOf_66 ?_
                refine lv_iconst (v := 1) hx hb dX5_rightsOf_67 (by decide) ?_
                refine lv_icmp_eq (tgt := 75) hx hb dX5_rightsOf_68 (by decide) (fun c_68 => ?_) (fun c_68 => ?_)
                ·
                  refine lv_iconst (v := 0) hx hb dX5_rightsOf_75 (by decide) ?_
                  refine lv_goto (tgt := 94) hx hb dX5_rightsOf_76 (by decide) ?_
                  exact J_94 _ (((if_pos c_57).trans (if_pos c_68)).symm) ls (lv_sub hl [0, 1, 2, 6, 7, 3, 4, 5] rfl)
                ·
                  refine lv_iconst (v := 1) hx hb dX5_rightsOf_71 (by decide) ?_
                  refine lv_goto (tgt := 94) hx hb dX5_rightsOf_72 (by decide) ?_
                  exact J_94 _ (((if_pos c_57).trans (if_neg c_68)).symm) ls (lv_sub hl [0, 1, 2, 6, 7, 3, 4, 5] rfl)
            ·
              obtain rfl : i = i2n (F 6 a) := by omega
              refine lv_iload hx hb dX5_rightsOf_36 (lv_at hl 5 rfl) ?_
              refine lv_bipush (v := 6) hx hb dX5_rightsOf_38 (by decide) ?_
              refine lv_iload hx hb dX5_rightsOf_40 (lv_at hl 3 rfl) ?_
              refine imul_n (x := 6) (y := a) hx hb dX5_rightsOf_42 ?_
              refine lv_aload_n hx hb dX5_rightsOf_43 rfl (lv_at hl 0 rfl) ?_
              refine va_get (D := D) (ci := 6) (v := .ref (ad 6)) (C := RX5) (T := TX5) (N := 20) hx hb hts (fun _ h => List.mem_cons_of_mem _ (List.mem_append_right _ (h))) hown hK hP 0 rfl rfl 5 (by decide) (hts _ (List.mem_of_getElem? (i := 2) rfl)) (fun _ h9 => h9) rfl dX5_rightsOf_44 ?_
              refine lv_iload hx hb dX5_rightsOf_47 (lv_at hl 3 rfl) ?_
              refine ld_i (k := a) hx hb hK hP 6 0 rfl rfl (by omega) (by decide) dX5_rightsOf_49 ?_
              refine top_eq (y := nI (i2n (F 6 a))) (by exact (hM.len ha).1) ?_
              refine iadd_n (x := 6 * a) (y := i2n (F 6 a)) hx hb dX5_rightsOf_50 ?_
              refine lv_icmp_ge (tgt := 158) hx hb dX5_rightsOf_51 (by decide) (fun c_51 => ?_) (fun c_51 => absurd (nI_le (by omega) (by omega)) c_51)
              refine lv_aload_n hx hb dX5_rightsOf_158 rfl (lv_at hl 0 rfl) ?_
              refine va_get (D := D) (ci := 6) (v := .ref (ad 5)) (C := RX5) (T := TX5) (N := 20) hx hb hts (fun _ h => List.mem_cons_of_mem _ (List.mem_append_right _ (h))) hown hK hP 0 rfl rfl 4 (by decide) (hts _ (List.mem_of_getElem? (i := 6) rfl)) (fun _ h9 => h9) rfl dX5_rightsOf_159 ?_
              refine lv_iload hx hb dX5_rightsOf_162 (lv_at hl 3 rfl) ?_
              refine ld_z (k := a) hx hb hK hP 5 1 rfl rfl (by omega) (by decide) dX5_rightsOf_164 ?_
              refine lv_if_eq (tgt := 183) hx hb dX5_rightsOf_165 (by decide) (fun c_165 => ?_) (fun c_165 => ?_)
              ·
                refine lv_iconst (v := 0) hx hb dX5_rightsOf_183 (by decide) ?_
                refine lv_istore (lv' := [(6, .int 0), (0, .ref (ad 0)), (1, .int (nI x)), (2, .int (nI y)), (5, .int (nI a)), (7, .int (nI (6 * a + (i2n (F 6 a))))), (3, .int ((mRow F x y a (i2n (F 6 a)) (s3, s4)).1)), (4, .int ((mRow F x y a (i2n (F 6 a)) (s3, s4)).2))]) hx hb dX5_rightsOf_184 hl (by decide) rfl (fun ls hl => ?_)
                refine lv_iload hx hb dX5_rightsOf_186 (lv_at hl 0 rfl) ?_
                refine lv_if_eq (tgt := 201) hx hb dX5_rightsOf_188 (by decide) (fun c_188 => ?_) (fun c_188 => absurd (by decide) c_188)
                refine lv_iload hx hb dX5_rightsOf_201 (lv_at hl 4 rfl) ?_
                refine lv_istore (lv' := [(5, .int (nI a)), (6, .int 0), (0, .ref (ad 0)), (1, .int (nI x)), (2, .int (nI y)), (7, .int (nI (6 * a + (i2n (F 6 a))))), (3, .int ((mRow F x y a (i2n (F 6 a)) (s3, s4)).1)), (4, .int ((mRow F x y a (i2n (F 6 a)) (s3, s4)).2))]) hx hb dX5_rightsOf_203 hl (by decide) rfl (fun ls hl => ?_)
                refine lv_goto (tgt := 24) hx hb dX5_rightsOf_205 (by decide) ?_
                exact E_24 a ((mRow F x y a (i2n (F 6 a)) (s3, s4)).1) ((mRow F x y a (i2n (F 6 a)) (s3, s4)).2) (by rw [← hq]; show _ = (if _ then _ else _); first | rw [if_pos c_165] | rw [if_neg c_165, if_pos c_176]) ls (lv_sub hl [2, 3, 4, 6, 7, 0, 1] rfl)
              ·
                refine lv_aload_n hx hb dX5_rightsOf_168 rfl (lv_at hl 0 rfl) ?_
                refine va_get (D := D) (ci := 6) (v := .ref (ad 3)) (C := RX5) (T := TX5) (N := 20) hx hb hts (fun _ h => List.mem_cons_of_mem _ (List.mem_append_right _ (h))) hown hK hP 0 rfl rfl 2 (by decide) (hts _ (List.mem_of_getElem? (i := 7) rfl)) (fun _ h9 => h9) rfl dX5_rightsOf_169 ?_
                refine lv_iload hx hb dX5_rightsOf_172 (lv_at hl 3 rfl) ?_
                refine ld_i (k := a) hx hb hK hP 3 0 rfl rfl (by omega) (by decide) dX5_rightsOf_174 ?_
                refine lv_iconst (v := (-1)) hx hb dX5_rightsOf_175 (by decide) ?_
                refine lv_icmp_eq (tgt := 183) hx hb dX5_rightsOf_176 (by decide) (fun c_176 => ?_) (fun c_176 => ?_)
                ·
                  refine lv_iconst (v := 0) hx hb dX5_rightsOf_183 (by decide) ?_
                  refine lv_istore (lv' := [(6, .int 0), (0, .ref (ad 0)), (1, .int (nI x)), (2, .int (nI y)), (5, .int (nI a)), (7, .int (nI (6 * a + (i2n (F 6 a))))), (3, .int ((mRow F x y a (i2n (F 6 a)) (s3, s4)).1)), (4, .int ((mRow F x y a (i2n (F 6 a)) (s3, s4)).2))]) hx hb dX5_rightsOf_184 hl (by decide) rfl (fun ls hl => ?_)
                  refine lv_iload hx hb dX5_rightsOf_186 (lv_at hl 0 rfl) ?_
                  refine lv_if_eq (tgt := 201) hx hb dX5_rightsOf_188 (by decide) (fun c_188 => ?_) (fun c_188 => absurd (by decide) c_188)
                  refine lv_iload hx hb dX5_rightsOf_201 (lv_at hl 4 rfl) ?_
                  refine lv_istore (lv' := [(5, .int (nI a)), (6, .int 0), (0, .ref (ad 0)), (1, .int (nI x)), (2, .int (nI y)), (7, .int (nI (6 * a + (i2n (F 6 a))))), (3, .int ((mRow F x y a (i2n (F 6 a)) (s3, s4)).1)), (4, .int ((mRow F x y a (i2n (F 6 a)) (s3, s4)).2))]) hx hb dX5_rightsOf_203 hl (by decide) rfl (fun ls hl => ?_)
                  refine lv_goto (tgt := 24) hx hb dX5_rightsOf_205 (by decide) ?_
                  exact E_24 a ((mRow F x y a (i2n (F 6 a)) (s3, s4)).1) ((mRow F x y a (i2n (F 6 a)) (s3, s4)).2) (by rw [← hq]; show _ = (if _ then _ else _); first | rw [if_pos c_165] | rw [if_neg c_165, if_pos c_176]) ls (lv_sub hl [2, 3, 4, 6, 7, 0, 1] rfl)
                ·
                  refine lv_iconst (v := 1) hx hb dX5_rightsOf_179 (by decide) ?_
                  refine lv_goto (tgt := 184) hx hb dX5_rightsOf_180 (by decide) ?_
                  refine lv_istore (lv' := [(6, .int 1), (0, .ref (ad 0)), (1, .int (nI x)), (2, .int (nI y)), (5, .int (nI a)), (7, .int (nI (6 * a + (i2n (F 6 a))))), (3, .int ((mRow F x y a (i2n (F 6 a)) (s3, s4)).1)), (4, .int ((mRow F x y a (i2n (F 6 a)) (s3, s4)).2))]) hx hb dX5_rightsOf_184 hl (by decide) rfl (fun ls hl => ?_)
                  refine lv_iload hx hb dX5_rightsOf_186 (lv_at hl 0 rfl) ?_
                  refine lv_if_eq (tgt := 201) hx hb dX5_rightsOf_188 (by decide) (fun c_188 => absurd c_188 (by decide)) (fun c_188 => ?_)
                  refine lv_aload_n hx hb dX5_rightsOf_191 rfl (lv_at hl 1 rfl) ?_
                  refine va_get (D := D) (ci := 6) (v := .ref (ad 3)) (C := RX5) (T := TX5) (N := 20) hx hb hts (fun _ h => List.mem_cons_of_mem _ (List.mem_append_right _ (h))) hown hK hP 0 rfl rfl 2 (by decide) (hts _ (List.mem_of_getElem? (i := 7) rfl)) (fun _ h9 => h9) rfl dX5_rightsOf_192 ?_
                  refine lv_iload hx hb dX5_rightsOf_195 (lv_at hl 4 rfl) ?_
                  refine ld_i (k := a) hx hb hK hP 3 0 rfl rfl (by omega) (by decide) dX5_rightsOf_197 ?_
                  refine top_eq (y := nI (i2n (F 3 a))) (by exact (hM.par ha c_176).1) ?_
                  refine lv_goto (tgt := 203) hx hb dX5_rightsOf_198 (by decide) ?_
                  refine lv_istore (lv' := [(5, .int (nI (i2n (F 3 a)))), (6, .int 1), (0, .ref (ad 0)), (1, .int (nI x)), (2, .int (nI y)), (7, .int (nI (6 * a + (i2n (F 6 a))))), (3, .int ((mRow F x y a (i2n (F 6 a)) (s3, s4)).1)), (4, .int ((mRow F x y a (i2n (F 6 a)) (s3, s4)).2))]) hx hb dX5_rightsOf_203 hl (by decide) rfl (fun ls hl => ?_)
                  refine lv_goto (tgt := 24) hx hb dX5_rightsOf_205 (by decide) ?_
                  exact ih_24 (i2n (F 3 a)) ((mRow F x y a (i2n (F 6 a)) (s3, s4)).1) ((mRow F x y a (i2n (F 6 a)) (s3, s4)).2) (by have := (hM.par ha c_176).2; omega) (by have := (hM.par ha c_176).2; omega) (by rw [← hq]; show _ = (if _ then _ else _); rw [if_neg c_165, if_neg c_176]) ls (lv_sub hl [2, 3, 4, 6, 7, 0, 1] rfl)
        exact L_36 (i2n (F 6 a) + 1) 0 (by omega) (by omega) _ (by rfl) _ (by rfl) ls (lv_sub hl [1, 2, 3, 6, 7, 0, 4, 5] rfl)
    exact L_24 (y + 1) y 0 0 (by exact hy) (by omega) (by rfl) ls (lv_sub hl [4, 5, 6, 3, 2, 1, 0] rfl)
  ·
    have eR : mRights F x y = 7 := if_pos c_7
    refine lv_bipush (v := 7) hx hb dX5_rightsOf_10 (by decide) ?_
    subst hQ
    exact W.iret (v := 7) hx hb hr (fun t ht _ => ⟨_, rfl, (by exact eR.symm), ht⟩) (fun _ h => absurd h List.not_mem_nil) dX5_rightsOf_12
end
section
theorem zz_last : True := trivial
end
